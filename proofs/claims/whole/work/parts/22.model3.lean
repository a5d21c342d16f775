def bd_X9_notes_98 (M : Nat → Int32) (a29 : Nat → Int32) (i_8 : Nat) (x_9 : (Int32)) : (Int32) :=
  (let z_10 : Int32 := (if x_9 = 0 then 0 else (if (a29 i_8) = (M 19) then 0 else 1)); z_10)
def sp_X9_notes (M : Nat → Int32) (L : Int64) (a28 : Nat → Int32) (a29 : Nat → Int32) (a31 : Nat → Int32) (ahead : Int32) : (Nat → Int32) × (Nat → Int32) × (Nat → Int32) × (Nat → Int32) :=
  let z_1 : Int32 := ((M 24) + 1)
  let z_2 : Int32 := ((M 25) + (M 21))
  let z_3 : Int32 := ((M 26) + (M 22))
  let z_4 : Int32 := ((a31 ahead.toNatClampNeg) ||| (1 <<< ((M 7) &&& 31)))
  (if (M 19) = (-9) then
    ((upd (upd (upd M 24 z_1) 25 z_2) 26 z_3), a28, a29, (upd a31 ahead.toNatClampNeg z_4))
  else
    let z_6 : Int32 := ((M 27) + 1)
    let z_7 : Int32 := ((a28 (((18 * ((M 19) - 1)) + (M 20)).toNatClampNeg)) + 1)
    let x_9 : (Int32) := lp (bd_X9_notes_98 M a29) ((M 30).toNatClampNeg) 1
    let z_11 : Nat → Int32 := (if x_9 = 0 then (upd (upd (upd (upd M 24 z_1) 25 z_2) 26 z_3) 27 z_6) else (let z_11 : Int32 := ((M 30) + 1); (upd (upd (upd (upd (upd M 24 z_1) 25 z_2) 26 z_3) 27 z_6) 30 z_11)))
    let z_12 : Nat → Int32 := (if x_9 = 0 then a29 else (upd a29 ((M 30).toNatClampNeg) (M 19)))
    (z_11, (upd a28 (((18 * ((M 19) - 1)) + (M 20)).toNatClampNeg) z_7), z_12, (upd a31 ahead.toNatClampNeg z_4)))
set_option maxRecDepth 100000 in
theorem sq_X9_notes_1 (M : Nat → Int32) (L : Int64) (a28 : Nat → Int32) (a29 : Nat → Int32) (a31 : Nat → Int32) (ahead : Int32) (z_1 : Int32) (z_2 : Int32) (z_3 : Int32) (z_4 : Int32) (z_6 : Int32) (z_7 : Int32) (x_9 : (Int32)) (z_11 : Nat → Int32) (z_12 : Nat → Int32) (ez_1 : z_1 = ((M 24) + 1)) (ez_2 : z_2 = ((M 25) + (M 21))) (ez_3 : z_3 = ((M 26) + (M 22))) (ez_4 : z_4 = ((a31 ahead.toNatClampNeg) ||| (1 <<< ((M 7) &&& 31)))) (ez_6 : z_6 = ((M 27) + 1)) (ez_7 : z_7 = ((a28 (((18 * ((M 19) - 1)) + (M 20)).toNatClampNeg)) + 1)) (ex_9 : x_9 = lp (bd_X9_notes_98 M a29) ((M 30).toNatClampNeg) 1) (ez_11 : z_11 = (if x_9 = 0 then (upd (upd (upd (upd M 24 z_1) 25 z_2) 26 z_3) 27 z_6) else (let z_11 : Int32 := ((M 30) + 1); (upd (upd (upd (upd (upd M 24 z_1) 25 z_2) 26 z_3) 27 z_6) 30 z_11)))) (ez_12 : z_12 = (if x_9 = 0 then a29 else (upd a29 ((M 30).toNatClampNeg) (M 19)))) (c_5 : ¬ ((M 19) = (-9))) : sp_X9_notes M L a28 a29 a31 ahead = (z_11, (upd a28 (((18 * ((M 19) - 1)) + (M 20)).toNatClampNeg) z_7), z_12, (upd a31 ahead.toNatClampNeg z_4)) := by subst ez_12; subst ez_11; subst ex_9; subst ez_7; subst ez_6; subst ez_4; subst ez_3; subst ez_2; subst ez_1; simp only [sp_X9_notes, if_neg c_5]
set_option maxRecDepth 100000 in
theorem sq_X9_notes_2 (M : Nat → Int32) (L : Int64) (a28 : Nat → Int32) (a29 : Nat → Int32) (a31 : Nat → Int32) (ahead : Int32) (z_1 : Int32) (z_2 : Int32) (z_3 : Int32) (z_4 : Int32) (ez_1 : z_1 = ((M 24) + 1)) (ez_2 : z_2 = ((M 25) + (M 21))) (ez_3 : z_3 = ((M 26) + (M 22))) (ez_4 : z_4 = ((a31 ahead.toNatClampNeg) ||| (1 <<< ((M 7) &&& 31)))) (c_5 : (M 19) = (-9)) : sp_X9_notes M L a28 a29 a31 ahead = ((upd (upd (upd M 24 z_1) 25 z_2) 26 z_3), a28, a29, (upd a31 ahead.toNatClampNeg z_4)) := by subst ez_4; subst ez_3; subst ez_2; subst ez_1; simp only [sp_X9_notes, if_pos c_5]
set_option maxHeartbeats 4000000 in
set_option maxRecDepth 100000 in
theorem c_X9_notes (l : Launch) (D : va_G) (cI cJ cO : ClassId) (h : Nat) (r : Nat → Nat) (M : Nat → Int32) (L : Int64) (a28 : Nat → Int32) (a29 : Nat → Int32) (a31 : Nat → Int32) (ahead : Int32) (ha : vp_in ahead 5) (hlk : ¬ M 19 = (-9) → vp_in ((18 * ((M 19) - 1)) + (M 20)) 90) (hm0 : ¬ M 30 < 0) (hm5 : (M 30).toNatClampNeg ≤ 5) (hnew : ¬ M 19 = (-9) → ¬ lp (bd_X9_notes_98 M a29) (M 30).toNatClampNeg 1 = 0 → vp_in (M 30) 5) : MV l D (TY cI cJ cO) yX9_notes wsX9_notes (RM 0) [.ref h, .int ahead] [(h, oX9 r M L), ((r 28), .inl (cI, 90, .inl a28)), ((r 29), .inl (cI, 5, .inl a29)), ((r 31), .inl (cI, 5, .inl a31))] [(h, oX9 r ((sp_X9_notes M L a28 a29 a31 ahead).1) L), ((r 28), .inl (cI, 90, .inl ((sp_X9_notes M L a28 a29 a31 ahead).2.1))), ((r 29), .inl (cI, 5, .inl ((sp_X9_notes M L a28 a29 a31 ahead).2.2.1))), ((r 31), .inl (cI, 5, .inl ((sp_X9_notes M L a28 a29 a31 ahead).2.2.2)))] := by
  refine k_entV (cc := cX9_notes) (maxL := 4) (lv := [(0, .ref h), (1, .int ahead)]) (by decide +kernel) rfl (Nat.le_of_ble_eq_true rfl) rfl ?_
  intro p e s m below meth c A Q ls hx hb hml hts hown hA hS hP hD hK hN hl hret
  have hown : s.vm.findClass RX9 = some m.cls := hown
  have hi9 : ∀ w ∈ wsX90, w ∈ wsX9_notes := fun w h => List.mem_cons_of_mem _ (List.mem_append_right _ h)
  have hf32 := hts (.fieldLink RX9 32 "PressGuardModel" "mode" "I") (by decide +kernel)
  have hf41 := hts (.fieldLink RX9 41 "PressGuardModel" "lockedAt" "[I") (by decide +kernel)
  have hf44 := hts (.fieldLink RX9 44 "PressGuardModel" "firstCauses" "[I") (by decide +kernel)
  have hf47 := hts (.fieldLink RX9 47 "PressGuardModel" "behind" "[I") (by decide +kernel)
  have hf127 := hts (.fieldLink RX9 127 "PressGuardModel" "newCause" "I") (by decide +kernel)
  have hf133 := hts (.fieldLink RX9 133 "PressGuardModel" "newPlace" "I") (by decide +kernel)
  have hf136 := hts (.fieldLink RX9 136 "PressGuardModel" "danger" "I") (by decide +kernel)
  have hf139 := hts (.fieldLink RX9 139 "PressGuardModel" "round" "I") (by decide +kernel)
  have hf170 := hts (.fieldLink RX9 170 "PressGuardModel" "ticks" "I") (by decide +kernel)
  have hf173 := hts (.fieldLink RX9 173 "PressGuardModel" "dangers" "I") (by decide +kernel)
  have hf176 := hts (.fieldLink RX9 176 "PressGuardModel" "rounds" "I") (by decide +kernel)
  have hf179 := hts (.fieldLink RX9 179 "PressGuardModel" "locks" "I") (by decide +kernel)
  have hf182 := hts (.fieldLink RX9 182 "PressGuardModel" "manyCauses" "I") (by decide +kernel)
  refine lv_aload_n hx hb dX9_notes_0 rfl (lv_at hl 0 rfl) ?_
  refine lv_dup hx hb dX9_notes_1 rfl ?_
  refine k_get hx hb hts hi9 hown hK hP 0 rfl rfl 24 (by decide) hf170 (.int (M 24)) rfl dX9_notes_2 ?_
  refine lv_iconst (v := 1) hx hb dX9_notes_5 (by decide +kernel) ?_
  refine lv_iadd hx hb dX9_notes_6 ?_
  refine lv_topi (fun z_1 ez_1 => ?_)
  refine k_put hx hb hts hi9 tyX9_ok nmX9 hown hK hP hD hS 0 rfl rfl 24 (by decide) hf170 rfl (.int z_1) rfl rfl (Nat.le_of_ble_eq_true rfl) (ws' := [(h, oX9 r (upd M 24 z_1) L), ((r 28), .inl (cI, 90, .inl a28)), ((r 29), .inl (cI, 5, .inl a29)), ((r 31), .inl (cI, 5, .inl a31))]) rfl dX9_notes_7 (fun H locs hP hD hS => ?_)
  refine lv_aload_n hx hb dX9_notes_10 rfl (lv_at hl 0 rfl) ?_
  refine lv_dup hx hb dX9_notes_11 rfl ?_
  refine k_get hx hb hts hi9 hown hK hP 0 rfl rfl 25 (by decide) hf173 (.int (M 25)) rfl dX9_notes_12 ?_
  refine lv_aload_n hx hb dX9_notes_15 rfl (lv_at hl 0 rfl) ?_
  refine k_get hx hb hts hi9 hown hK hP 0 rfl rfl 21 (by decide) hf136 (.int (M 21)) rfl dX9_notes_16 ?_
  refine lv_iadd hx hb dX9_notes_19 ?_
  refine lv_topi (fun z_2 ez_2 => ?_)
  refine k_put hx hb hts hi9 tyX9_ok nmX9 hown hK hP hD hS 0 rfl rfl 25 (by decide) hf173 rfl (.int z_2) rfl rfl (Nat.le_of_ble_eq_true rfl) (ws' := [(h, oX9 r (upd (upd M 24 z_1) 25 z_2) L), ((r 28), .inl (cI, 90, .inl a28)), ((r 29), .inl (cI, 5, .inl a29)), ((r 31), .inl (cI, 5, .inl a31))]) rfl dX9_notes_20 (fun H locs hP hD hS => ?_)
  refine lv_aload_n hx hb dX9_notes_23 rfl (lv_at hl 0 rfl) ?_
  refine lv_dup hx hb dX9_notes_24 rfl ?_
  refine k_get hx hb hts hi9 hown hK hP 0 rfl rfl 26 (by decide) hf176 (.int (M 26)) rfl dX9_notes_25 ?_
  refine lv_aload_n hx hb dX9_notes_28 rfl (lv_at hl 0 rfl) ?_
  refine k_get hx hb hts hi9 hown hK hP 0 rfl rfl 22 (by decide) hf139 (.int (M 22)) rfl dX9_notes_29 ?_
  refine lv_iadd hx hb dX9_notes_32 ?_
  refine lv_topi (fun z_3 ez_3 => ?_)
  refine k_put hx hb hts hi9 tyX9_ok nmX9 hown hK hP hD hS 0 rfl rfl 26 (by decide) hf176 rfl (.int z_3) rfl rfl (Nat.le_of_ble_eq_true rfl) (ws' := [(h, oX9 r (upd (upd (upd M 24 z_1) 25 z_2) 26 z_3) L), ((r 28), .inl (cI, 90, .inl a28)), ((r 29), .inl (cI, 5, .inl a29)), ((r 31), .inl (cI, 5, .inl a31))]) rfl dX9_notes_33 (fun H locs hP hD hS => ?_)
  refine lv_aload_n hx hb dX9_notes_36 rfl (lv_at hl 0 rfl) ?_
  refine k_get hx hb hts hi9 hown hK hP 0 rfl rfl 31 (by decide) hf47 (.ref (r 31)) rfl dX9_notes_37 ?_
  refine lv_iload_n hx hb dX9_notes_40 rfl (lv_at hl 1 rfl) ?_
  refine lv_dup2_11 hx hb dX9_notes_41 rfl rfl ?_
  refine k_iald hx hb hK hP 3 0 rfl rfl ahead.toNatClampNeg (rfl) (ha) dX9_notes_42 ?_
  refine lv_iconst (v := 1) hx hb dX9_notes_43 (by decide +kernel) ?_
  refine lv_aload_n hx hb dX9_notes_44 rfl (lv_at hl 0 rfl) ?_
  refine k_get hx hb hts hi9 hown hK hP 0 rfl rfl 7 (by decide) hf32 (.int (M 7)) rfl dX9_notes_45 ?_
  refine lv_ishl hx hb dX9_notes_48 ?_
  refine lv_ior hx hb dX9_notes_49 ?_
  refine lv_topi (fun z_4 ez_4 => ?_)
  refine k_iast hx hb hK hP hD hS 3 0 rfl rfl ahead.toNatClampNeg (rfl) (ha) (ws' := [(h, oX9 r (upd (upd (upd M 24 z_1) 25 z_2) 26 z_3) L), ((r 28), .inl (cI, 90, .inl a28)), ((r 29), .inl (cI, 5, .inl a29)), ((r 31), .inl (cI, 5, .inl (upd a31 ahead.toNatClampNeg z_4)))]) rfl dX9_notes_50 (fun H locs hP hD hS => ?_)
  refine lv_aload_n hx hb dX9_notes_51 rfl (lv_at hl 0 rfl) ?_
  refine k_get hx hb hts hi9 hown hK hP 0 rfl rfl 19 (by decide) hf127 (.int (M 19)) rfl dX9_notes_52 ?_
  refine lv_bipush (v := (-9)) hx hb dX9_notes_55 (by decide +kernel) ?_
  refine lv_icmp_ne (tgt := 61) hx hb dX9_notes_57 (by decide) (fun c_5 => ?_) (fun c_5 => ?_)
  · skip
    refine lv_aload_n hx hb dX9_notes_61 rfl (lv_at hl 0 rfl) ?_
    refine lv_dup hx hb dX9_notes_62 rfl ?_
    refine k_get hx hb hts hi9 hown hK hP 0 rfl rfl 27 (by decide) hf179 (.int (M 27)) rfl dX9_notes_63 ?_
    refine lv_iconst (v := 1) hx hb dX9_notes_66 (by decide +kernel) ?_
    refine lv_iadd hx hb dX9_notes_67 ?_
    refine lv_topi (fun z_6 ez_6 => ?_)
    refine k_put hx hb hts hi9 tyX9_ok nmX9 hown hK hP hD hS 0 rfl rfl 27 (by decide) hf179 rfl (.int z_6) rfl rfl (Nat.le_of_ble_eq_true rfl) (ws' := [(h, oX9 r (upd (upd (upd (upd M 24 z_1) 25 z_2) 26 z_3) 27 z_6) L), ((r 28), .inl (cI, 90, .inl a28)), ((r 29), .inl (cI, 5, .inl a29)), ((r 31), .inl (cI, 5, .inl (upd a31 ahead.toNatClampNeg z_4)))]) rfl dX9_notes_68 (fun H locs hP hD hS => ?_)
    refine lv_aload_n hx hb dX9_notes_71 rfl (lv_at hl 0 rfl) ?_
    refine k_get hx hb hts hi9 hown hK hP 0 rfl rfl 28 (by decide) hf41 (.ref (r 28)) rfl dX9_notes_72 ?_
    refine lv_bipush (v := 18) hx hb dX9_notes_75 (by decide +kernel) ?_
    refine lv_aload_n hx hb dX9_notes_77 rfl (lv_at hl 0 rfl) ?_
    refine k_get hx hb hts hi9 hown hK hP 0 rfl rfl 19 (by decide) hf127 (.int (M 19)) rfl dX9_notes_78 ?_
    refine lv_iconst (v := 1) hx hb dX9_notes_81 (by decide +kernel) ?_
    refine lv_isub hx hb dX9_notes_82 ?_
    refine lv_imul hx hb dX9_notes_83 ?_
    refine lv_aload_n hx hb dX9_notes_84 rfl (lv_at hl 0 rfl) ?_
    refine k_get hx hb hts hi9 hown hK hP 0 rfl rfl 20 (by decide) hf133 (.int (M 20)) rfl dX9_notes_85 ?_
    refine lv_iadd hx hb dX9_notes_88 ?_
    refine lv_dup2_11 hx hb dX9_notes_89 rfl rfl ?_
    refine k_iald hx hb hK hP 1 0 rfl rfl (((18 * ((M 19) - 1)) + (M 20)).toNatClampNeg) (rfl) (hlk c_5) dX9_notes_90 ?_
    refine lv_iconst (v := 1) hx hb dX9_notes_91 (by decide +kernel) ?_
    refine lv_iadd hx hb dX9_notes_92 ?_
    refine lv_topi (fun z_7 ez_7 => ?_)
    refine k_iast hx hb hK hP hD hS 1 0 rfl rfl (((18 * ((M 19) - 1)) + (M 20)).toNatClampNeg) (rfl) (hlk c_5) (ws' := [(h, oX9 r (upd (upd (upd (upd M 24 z_1) 25 z_2) 26 z_3) 27 z_6) L), ((r 28), .inl (cI, 90, .inl (upd a28 (((18 * ((M 19) - 1)) + (M 20)).toNatClampNeg) z_7))), ((r 29), .inl (cI, 5, .inl a29)), ((r 31), .inl (cI, 5, .inl (upd a31 ahead.toNatClampNeg z_4)))]) rfl dX9_notes_93 (fun H locs hP hD hS => ?_)
    refine lv_iconst (v := 1) hx hb dX9_notes_94 (by decide +kernel) ?_
    refine lv_istore_n (lv' := [(2, .int 1), (0, .ref h), (1, .int ahead)]) hx hb dX9_notes_95 rfl hl (by decide) rfl (fun ls hl => ?_)
    refine lv_iconst (v := 0) hx hb dX9_notes_96 (by decide +kernel) ?_
    refine lv_istore_n (lv' := [(3, .int 0), (2, .int 1), (0, .ref h), (1, .int ahead)]) hx hb dX9_notes_97 rfl hl (by decide) rfl (fun ls hl => ?_)
    obtain ⟨fx_9, hfx_9⟩ : ∃ f : Nat → (Int32) → (Int32), f = (bd_X9_notes_98 M a29) := ⟨_, rfl⟩
    have hB_x_9 : (M 30) = nI ((M 30).toNatClampNeg) := nI_self hm0
    have hN_x_9 : (M 30).toNatClampNeg < 2 ^ 31 := clamp_lt _
    have Lx_9 : ∀ (nn i_8 : Nat) (x_9 : (Int32)), (M 30).toNatClampNeg + 1 ≤ i_8 + nn → i_8 ≤ (M 30).toNatClampNeg → x_9 = lp fx_9 i_8 1 → ∀ (H : Heap) (locs : List Loc), va_P D vwCl [(h, oX9 r (upd (upd (upd (upd M 24 z_1) 25 z_2) 26 z_3) 27 z_6) L), ((r 28), .inl (cI, 90, .inl (upd a28 (((18 * ((M 19) - 1)) + (M 20)).toNatClampNeg) z_7))), ((r 29), .inl (cI, 5, .inl a29)), ((r 31), .inl (cI, 5, .inl (upd a31 ahead.toNatClampNeg z_4)))] H → va_D A [(h, oX9 r (upd (upd (upd (upd M 24 z_1) 25 z_2) 26 z_3) 27 z_6) L), ((r 28), .inl (cI, 90, .inl (upd a28 (((18 * ((M 19) - 1)) + (M 20)).toNatClampNeg) z_7))), ((r 29), .inl (cI, 5, .inl a29)), ((r 31), .inl (cI, 5, .inl (upd a31 ahead.toNatClampNeg z_4)))] → va_S A s.heap H locs → ∀ ls : Array Slot, lv_has ls 4 [(0, .ref h), (2, .int x_9), (3, .int (nI i_8))] → W p l e (RM 0) s m ([.ref h, .int ahead] : List Value).toArray below meth c H locs 0 0 Q (F0 m 98 ls []) := by
      intro nn_x_9
      induction nn_x_9 with
      | zero => intro i_8 x_9 h1 h2; exact absurd h1 (by omega)
      | succ nn_x_9 ih_x_9 =>
        intro i_8 x_9 hn_x_9 hi_i_8 ex_x_9 H locs hP hD hS ls hl
        refine lv_iload_n hx hb dX9_notes_98 rfl (lv_at hl 2 rfl) ?_
        refine lv_aload_n hx hb dX9_notes_99 rfl (lv_at hl 0 rfl) ?_
        refine k_get hx hb hts hi9 hown hK hP 0 rfl rfl 30 (by decide) hf182 (.int (M 30)) rfl dX9_notes_100 ?_
        refine lv_icmp_ge (tgt := 135) hx hb dX9_notes_103 (by decide) (fun c_10 => ?_) (fun c_10 => ?_)
        · skip
          have hq_x_9 : i_8 = (M 30).toNatClampNeg := k_eq hB_x_9 c_10 hi_i_8 hN_x_9
          have ex_9 : x_9 = lp (bd_X9_notes_98 M a29) ((M 30).toNatClampNeg) 1 := by rw [ex_x_9, hfx_9, hq_x_9]
          refine lv_iload_n hx hb dX9_notes_135 rfl (lv_at hl 1 rfl) ?_
          have J_13 : ∀ z_11 : Nat → Int32, z_11 = (if x_9 = 0 then (upd (upd (upd (upd M 24 z_1) 25 z_2) 26 z_3) 27 z_6) else (let z_11 : Int32 := ((M 30) + 1); (upd (upd (upd (upd (upd M 24 z_1) 25 z_2) 26 z_3) 27 z_6) 30 z_11))) → ∀ z_12 : Nat → Int32, z_12 = (if x_9 = 0 then a29 else (upd a29 ((M 30).toNatClampNeg) (M 19))) → ∀ (H : Heap) (locs : List Loc), va_P D vwCl [(h, oX9 r z_11 L), ((r 28), .inl (cI, 90, .inl (upd a28 (((18 * ((M 19) - 1)) + (M 20)).toNatClampNeg) z_7))), ((r 29), .inl (cI, 5, .inl z_12)), ((r 31), .inl (cI, 5, .inl (upd a31 ahead.toNatClampNeg z_4)))] H → va_D A [(h, oX9 r z_11 L), ((r 28), .inl (cI, 90, .inl (upd a28 (((18 * ((M 19) - 1)) + (M 20)).toNatClampNeg) z_7))), ((r 29), .inl (cI, 5, .inl z_12)), ((r 31), .inl (cI, 5, .inl (upd a31 ahead.toNatClampNeg z_4)))] → va_S A s.heap H locs → ∀ ls : Array Slot, lv_has ls 4 [] → W p l e (RM 0) s m ([.ref h, .int ahead] : List Value).toArray below meth c H locs 0 0 Q (F0 m 162 ls []) := by
            intro z_11 ez_11 z_12 ez_12 H locs hP hD hS ls hl
            have hsp : sp_X9_notes M L a28 a29 a31 ahead = (z_11, (upd a28 (((18 * ((M 19) - 1)) + (M 20)).toNatClampNeg) z_7), z_12, (upd a31 ahead.toNatClampNeg z_4)) := sq_X9_notes_1 M L a28 a29 a31 ahead z_1 z_2 z_3 z_4 z_6 z_7 x_9 z_11 z_12 ez_1 ez_2 ez_3 ez_4 ez_6 ez_7 ex_9 ez_11 ez_12 c_5
            exact hret _ _ _ _ (by rw [hsp]; exact hP) hS dX9_notes_162
          refine lv_if_eq (tgt := 162) hx hb dX9_notes_136 (by decide) (fun c_14 => ?_) (fun c_14 => ?_)
          · skip
            exact J_13 (upd (upd (upd (upd M 24 z_1) 25 z_2) 26 z_3) 27 z_6) (by first | (simp only [if_pos c_14]; done) | rfl) a29 (by first | (simp only [if_pos c_14]; done) | rfl) _ _ hP hD hS _ (lv_sub hl [] rfl)
          · skip
            refine lv_aload_n hx hb dX9_notes_139 rfl (lv_at hl 0 rfl) ?_
            refine k_get hx hb hts hi9 hown hK hP 0 rfl rfl 29 (by decide) hf44 (.ref (r 29)) rfl dX9_notes_140 ?_
            refine lv_aload_n hx hb dX9_notes_143 rfl (lv_at hl 0 rfl) ?_
            refine k_get hx hb hts hi9 hown hK hP 0 rfl rfl 30 (by decide) hf182 (.int (M 30)) rfl dX9_notes_144 ?_
            refine lv_aload_n hx hb dX9_notes_147 rfl (lv_at hl 0 rfl) ?_
            refine k_get hx hb hts hi9 hown hK hP 0 rfl rfl 19 (by decide) hf127 (.int (M 19)) rfl dX9_notes_148 ?_
            refine k_iast hx hb hK hP hD hS 2 0 rfl rfl ((M 30).toNatClampNeg) (rfl) (hnew c_5 (by rw [← ex_9]; exact c_14)) (ws' := [(h, oX9 r (upd (upd (upd (upd M 24 z_1) 25 z_2) 26 z_3) 27 z_6) L), ((r 28), .inl (cI, 90, .inl (upd a28 (((18 * ((M 19) - 1)) + (M 20)).toNatClampNeg) z_7))), ((r 29), .inl (cI, 5, .inl (upd a29 ((M 30).toNatClampNeg) (M 19)))), ((r 31), .inl (cI, 5, .inl (upd a31 ahead.toNatClampNeg z_4)))]) rfl dX9_notes_151 (fun H locs hP hD hS => ?_)
            refine lv_aload_n hx hb dX9_notes_152 rfl (lv_at hl 0 rfl) ?_
            refine lv_dup hx hb dX9_notes_153 rfl ?_
            refine k_get hx hb hts hi9 hown hK hP 0 rfl rfl 30 (by decide) hf182 (.int (M 30)) rfl dX9_notes_154 ?_
            refine lv_iconst (v := 1) hx hb dX9_notes_157 (by decide +kernel) ?_
            refine lv_iadd hx hb dX9_notes_158 ?_
            refine lv_topi (fun z_15 ez_15 => ?_)
            refine k_put hx hb hts hi9 tyX9_ok nmX9 hown hK hP hD hS 0 rfl rfl 30 (by decide) hf182 rfl (.int z_15) rfl rfl (Nat.le_of_ble_eq_true rfl) (ws' := [(h, oX9 r (upd (upd (upd (upd (upd M 24 z_1) 25 z_2) 26 z_3) 27 z_6) 30 z_15) L), ((r 28), .inl (cI, 90, .inl (upd a28 (((18 * ((M 19) - 1)) + (M 20)).toNatClampNeg) z_7))), ((r 29), .inl (cI, 5, .inl (upd a29 ((M 30).toNatClampNeg) (M 19)))), ((r 31), .inl (cI, 5, .inl (upd a31 ahead.toNatClampNeg z_4)))]) rfl dX9_notes_159 (fun H locs hP hD hS => ?_)
            exact J_13 (upd (upd (upd (upd (upd M 24 z_1) 25 z_2) 26 z_3) 27 z_6) 30 z_15) (by subst ez_15; first | (simp only [if_neg c_14]; done) | rfl) (upd a29 ((M 30).toNatClampNeg) (M 19)) (by subst ez_15; first | (simp only [if_neg c_14]; done) | rfl) _ _ hP hD hS _ (lv_sub hl [] rfl)
        · skip
          have hlt_i_8 : i_8 < (M 30).toNatClampNeg := k_lt hB_x_9 c_10 hi_i_8 hN_x_9
          refine lv_iload_n hx hb dX9_notes_106 rfl (lv_at hl 1 rfl) ?_
          have J_17 : ∀ z_16 : Int32, z_16 = (if x_9 = 0 then 0 else (if (a29 i_8) = (M 19) then 0 else 1)) → ∀ (H : Heap) (locs : List Loc), va_P D vwCl [(h, oX9 r (upd (upd (upd (upd M 24 z_1) 25 z_2) 26 z_3) 27 z_6) L), ((r 28), .inl (cI, 90, .inl (upd a28 (((18 * ((M 19) - 1)) + (M 20)).toNatClampNeg) z_7))), ((r 29), .inl (cI, 5, .inl a29)), ((r 31), .inl (cI, 5, .inl (upd a31 ahead.toNatClampNeg z_4)))] H → va_D A [(h, oX9 r (upd (upd (upd (upd M 24 z_1) 25 z_2) 26 z_3) 27 z_6) L), ((r 28), .inl (cI, 90, .inl (upd a28 (((18 * ((M 19) - 1)) + (M 20)).toNatClampNeg) z_7))), ((r 29), .inl (cI, 5, .inl a29)), ((r 31), .inl (cI, 5, .inl (upd a31 ahead.toNatClampNeg z_4)))] → va_S A s.heap H locs → ∀ ls : Array Slot, lv_has ls 4 [(0, .ref h), (3, .int (nI i_8))] → W p l e (RM 0) s m ([.ref h, .int ahead] : List Value).toArray below meth c H locs 0 0 Q (F0 m 128 ls [.int z_16]) := by
            intro z_16 ez_16 H locs hP hD hS ls hl
            refine lv_istore_n (lv' := [(2, .int z_16), (0, .ref h), (3, .int (nI i_8))]) hx hb dX9_notes_128 rfl hl (by decide) rfl (fun ls hl => ?_)
            refine lv_iinc (v := (nI (i_8 + 1))) (lv' := [(3, .int (nI (i_8 + 1))), (2, .int z_16), (0, .ref h)]) hx hb dX9_notes_129 hl (k := 2) rfl (nI_1 i_8) (by decide) rfl (fun ls hl => ?_)
            refine lv_goto (tgt := 98) hx hb dX9_notes_132 (by decide) ?_
            exact ih_x_9 (i_8 + 1) z_16 (by omega) (by omega) (by subst ez_16; rw [show lp fx_9 (i_8 + 1) 1 = fx_9 i_8 (lp fx_9 i_8 1) from rfl, ← ex_x_9, hfx_9]; try (first | (rfl; done) | rfl)) _ _ hP hD hS _ (lv_sub hl [2, 1, 0] rfl)
          refine lv_if_eq (tgt := 127) hx hb dX9_notes_107 (by decide) (fun c_18 => ?_) (fun c_18 => ?_)
          · skip
            refine lv_iconst (v := 0) hx hb dX9_notes_127 (by decide +kernel) ?_
            exact J_17 0 (by first | (simp only [if_pos c_18]; done) | rfl) _ _ hP hD hS _ (lv_sub hl [0, 2] rfl)
          · skip
            refine lv_aload_n hx hb dX9_notes_110 rfl (lv_at hl 0 rfl) ?_
            refine k_get hx hb hts hi9 hown hK hP 0 rfl rfl 29 (by decide) hf44 (.ref (r 29)) rfl dX9_notes_111 ?_
            refine lv_iload_n hx hb dX9_notes_114 rfl (lv_at hl 2 rfl) ?_
            refine k_iald hx hb hK hP 2 0 rfl rfl i_8 (nI_clamp (by omega)) (vp_in_nI (by omega) (by omega)) dX9_notes_115 ?_
            refine lv_aload_n hx hb dX9_notes_116 rfl (lv_at hl 0 rfl) ?_
            refine k_get hx hb hts hi9 hown hK hP 0 rfl rfl 19 (by decide) hf127 (.int (M 19)) rfl dX9_notes_117 ?_
            refine lv_icmp_eq (tgt := 127) hx hb dX9_notes_120 (by decide) (fun c_19 => ?_) (fun c_19 => ?_)
            · skip
              refine lv_iconst (v := 0) hx hb dX9_notes_127 (by decide +kernel) ?_
              exact J_17 0 (by first | (simp only [if_neg c_18, if_pos c_19]; done) | rfl) _ _ hP hD hS _ (lv_sub hl [0, 2] rfl)
            · skip
              refine lv_iconst (v := 1) hx hb dX9_notes_123 (by decide +kernel) ?_
              refine lv_goto (tgt := 128) hx hb dX9_notes_124 (by decide) ?_
              exact J_17 1 (by first | (simp only [if_neg c_18, if_neg c_19]; done) | rfl) _ _ hP hD hS _ (lv_sub hl [0, 2] rfl)
    exact Lx_9 ((M 30).toNatClampNeg + 1) 0 1 (by omega) (Nat.zero_le _) rfl _ _ hP hD hS _ (lv_sub hl [2, 1, 0] rfl)
  · skip
    have hsp : sp_X9_notes M L a28 a29 a31 ahead = ((upd (upd (upd M 24 z_1) 25 z_2) 26 z_3), a28, a29, (upd a31 ahead.toNatClampNeg z_4)) := sq_X9_notes_2 M L a28 a29 a31 ahead z_1 z_2 z_3 z_4 ez_1 ez_2 ez_3 ez_4 c_5
    exact hret _ _ _ _ (by rw [hsp]; exact hP) hS dX9_notes_60

def bd_X9_locked_35 (a28 : Nat → Int32) (cause : Int32) (i_3 : Nat) (x_4 : (Int32)) : (Int32) :=
  (let z_5 : Int32 := (x_4 + (a28 (((18 * (cause - 1)) + (nI i_3)).toNatClampNeg))); z_5)
def bd_X9_locked_35b (a28 : Nat → Int32) (cause : Int32) (place : Int32) (i_8 : Nat) (x_9 : (Int32)) : (Int32) :=
  (let z_10 : Int32 := (if place = (nI i_8) then (a28 (((18 * (cause - 1)) + (nI i_8)).toNatClampNeg)) else 0); (x_9 + z_10))
def sp_X9_locked (M : Nat → Int32) (L : Int64) (a28 : Nat → Int32) (cause : Int32) (place : Int32) : Int32 :=
  (if (sp_X9_within cause 1 5) = 0 then
    (-1)
  else
    (if place = (-9) then
      let x_4 : (Int32) := lp (bd_X9_locked_35 a28 cause) 18 0
      x_4
    else
      (if (sp_X9_within place 0 17) = 0 then
        (-2)
      else
        let x_9 : (Int32) := lp (bd_X9_locked_35b a28 cause place) 18 0
        x_9)))
set_option maxRecDepth 100000 in
theorem sq_X9_locked_1 (M : Nat → Int32) (L : Int64) (a28 : Nat → Int32) (cause : Int32) (place : Int32) (x_4 : (Int32)) (ex_4 : x_4 = lp (bd_X9_locked_35 a28 cause) 18 0) (c_1 : ¬ ((sp_X9_within cause 1 5) = 0)) (c_2 : place = (-9)) : sp_X9_locked M L a28 cause place = x_4 := by subst ex_4; simp only [sp_X9_locked, if_neg c_1, if_pos c_2]
set_option maxRecDepth 100000 in
theorem sq_X9_locked_2 (M : Nat → Int32) (L : Int64) (a28 : Nat → Int32) (cause : Int32) (place : Int32) (x_9 : (Int32)) (ex_9 : x_9 = lp (bd_X9_locked_35b a28 cause place) 18 0) (c_1 : ¬ ((sp_X9_within cause 1 5) = 0)) (c_2 : ¬ (place = (-9))) (c_7 : ¬ ((sp_X9_within place 0 17) = 0)) : sp_X9_locked M L a28 cause place = x_9 := by subst ex_9; simp only [sp_X9_locked, if_neg c_1, if_neg c_2, if_neg c_7]
set_option maxHeartbeats 4000000 in
set_option maxRecDepth 100000 in
theorem c_X9_locked (l : Launch) (D : va_G) (cI cJ cO : ClassId) (h : Nat) (r : Nat → Nat) (M : Nat → Int32) (L : Int64) (a28 : Nat → Int32) (cause : Int32) (place : Int32)  : MI l D (TY cI cJ cO) yX9_locked wsX9_locked (RM 1) [.ref h, .int cause, .int place] [(h, oX9 r M L), ((r 28), .inl (cI, 90, .inl a28))] (sp_X9_locked M L a28 cause place) [(h, oX9 r M L), ((r 28), .inl (cI, 90, .inl a28))] := by
  refine k_entI (cc := cX9_locked) (maxL := 5) (lv := [(0, .ref h), (1, .int cause), (2, .int place)]) (by decide +kernel) rfl (Nat.le_of_ble_eq_true rfl) rfl ?_
  intro p e s m below meth c A Q ls hx hb hml hts hown hA hS hP hD hK hN hl hret
  have hown : s.vm.findClass RX9 = some m.cls := hown
  have hi9 : ∀ w ∈ wsX90, w ∈ wsX9_locked := fun w h => List.mem_cons_of_mem _ (List.mem_append_right _ h)
  have hf41 := hts (.fieldLink RX9 41 "PressGuardModel" "lockedAt" "[I") (by decide +kernel)
  refine lv_iload_n hx hb dX9_locked_0 rfl (lv_at hl 1 rfl) ?_
  refine lv_iconst (v := 1) hx hb dX9_locked_1 (by decide +kernel) ?_
  refine lv_iconst (v := 5) hx hb dX9_locked_2 (by decide +kernel) ?_
  refine k_Si ⟨hx, hb, hml, hown, hts⟩ (c_X9_within l D cI cJ cO cause 1 5) (va_cwS 3 hts gX9_locked_X9_within rfl rfl rfl (by decide +kernel) ⟨Nat.le_of_ble_eq_true rfl, Nat.le_of_ble_eq_true rfl⟩) hK hN hP hD hS hA [] rfl rfl rfl (ws' := [(h, oX9 r M L), ((r 28), .inl (cI, 90, .inl a28))]) rfl rfl hl.1 rfl (Nat.le_of_ble_eq_true rfl) dX9_locked_3 ⟨Nat.le_refl _, Nat.le_refl _⟩ (fun H locs hP hD hS => ?_)
  refine lv_if_ne (tgt := 11) hx hb dX9_locked_6 (by decide) (fun c_1 => ?_) (fun c_1 => ?_)
  · skip
    refine lv_iload_n hx hb dX9_locked_11 rfl (lv_at hl 2 rfl) ?_
    refine lv_bipush (v := (-9)) hx hb dX9_locked_12 (by decide +kernel) ?_
    refine lv_icmp_eq (tgt := 30) hx hb dX9_locked_14 (by decide) (fun c_2 => ?_) (fun c_2 => ?_)
    · skip
      refine lv_iconst (v := 0) hx hb dX9_locked_30 (by decide +kernel) ?_
      refine lv_istore_n (lv' := [(3, .int 0), (0, .ref h), (1, .int cause), (2, .int place)]) hx hb dX9_locked_31 rfl hl (by decide) rfl (fun ls hl => ?_)
      refine lv_iconst (v := 0) hx hb dX9_locked_32 (by decide +kernel) ?_
      refine lv_istore (lv' := [(4, .int 0), (3, .int 0), (0, .ref h), (1, .int cause), (2, .int place)]) hx hb dX9_locked_33 hl (by decide) rfl (fun ls hl => ?_)
      obtain ⟨fx_4, hfx_4⟩ : ∃ f : Nat → (Int32) → (Int32), f = (bd_X9_locked_35 a28 cause) := ⟨_, rfl⟩
      have hB_x_4 : (18 : Int32) = nI 18 := by decide +kernel
      have hN_x_4 : 18 < 2 ^ 31 := by decide
      have Lx_4 : ∀ (nn i_3 : Nat) (x_4 : (Int32)), 18 + 1 ≤ i_3 + nn → i_3 ≤ 18 → x_4 = lp fx_4 i_3 0 → ∀ (H : Heap) (locs : List Loc), va_P D vwCl [(h, oX9 r M L), ((r 28), .inl (cI, 90, .inl a28))] H → va_D A [(h, oX9 r M L), ((r 28), .inl (cI, 90, .inl a28))] → va_S A s.heap H locs → ∀ ls : Array Slot, lv_has ls 5 [(0, .ref h), (1, .int cause), (2, .int place), (3, .int x_4), (4, .int (nI i_3))] → W p l e (RM 1) s m ([.ref h, .int cause, .int place] : List Value).toArray below meth c H locs 0 0 Q (F0 m 35 ls []) := by
        intro nn_x_4
        induction nn_x_4 with
        | zero => intro i_3 x_4 h1 h2; exact absurd h1 (by omega)
        | succ nn_x_4 ih_x_4 =>
          intro i_3 x_4 hn_x_4 hi_i_3 ex_x_4 H locs hP hD hS ls hl
          refine lv_iload hx hb dX9_locked_35 (lv_at hl 4 rfl) ?_
          refine lv_bipush (v := 18) hx hb dX9_locked_37 (by decide +kernel) ?_
          refine lv_icmp_ge (tgt := 81) hx hb dX9_locked_39 (by decide) (fun c_5 => ?_) (fun c_5 => ?_)
          · skip
            have hq_x_4 : i_3 = 18 := k_eq hB_x_4 c_5 hi_i_3 hN_x_4
            have ex_4 : x_4 = lp (bd_X9_locked_35 a28 cause) 18 0 := by rw [ex_x_4, hfx_4, hq_x_4]
            refine lv_iload_n hx hb dX9_locked_81 rfl (lv_at hl 3 rfl) ?_
            have hsp : sp_X9_locked M L a28 cause place = x_4 := sq_X9_locked_1 M L a28 cause place x_4 ex_4 c_1 c_2
            exact hret _ _ _ _ _ (by rw [hsp]) rfl hP hS dX9_locked_82
          · skip
            have hlt_i_3 : i_3 < 18 := k_lt hB_x_4 c_5 hi_i_3 hN_x_4
            refine lv_iload_n hx hb dX9_locked_42 rfl (lv_at hl 3 rfl) ?_
            refine lv_iload_n hx hb dX9_locked_43 rfl (lv_at hl 2 rfl) ?_
            refine lv_bipush (v := (-9)) hx hb dX9_locked_44 (by decide +kernel) ?_
            refine lv_icmp_eq (tgt := 55) hx hb dX9_locked_46 (by decide) (fun _ => ?_) (fun q => absurd c_2 q)
            refine lv_aload_n hx hb dX9_locked_55 rfl (lv_at hl 0 rfl) ?_
            refine k_get hx hb hts hi9 hown hK hP 0 rfl rfl 28 (by decide) hf41 (.ref (r 28)) rfl dX9_locked_56 ?_
            refine lv_bipush (v := 18) hx hb dX9_locked_59 (by decide +kernel) ?_
            refine lv_iload_n hx hb dX9_locked_61 rfl (lv_at hl 1 rfl) ?_
            refine lv_iconst (v := 1) hx hb dX9_locked_62 (by decide +kernel) ?_
            refine lv_isub hx hb dX9_locked_63 ?_
            refine lv_imul hx hb dX9_locked_64 ?_
            refine lv_iload hx hb dX9_locked_65 (lv_at hl 4 rfl) ?_
            refine lv_iadd hx hb dX9_locked_67 ?_
            refine k_iald hx hb hK hP 1 0 rfl rfl (((18 * (cause - 1)) + (nI i_3)).toNatClampNeg) (rfl) (lk_in c_1 (by omega)) dX9_locked_68 ?_
            refine lv_goto (tgt := 73) hx hb dX9_locked_69 (by decide) ?_
            refine lv_iadd hx hb dX9_locked_73 ?_
            refine lv_topi (fun z_6 ez_6 => ?_)
            refine lv_istore_n (lv' := [(3, .int z_6), (0, .ref h), (1, .int cause), (2, .int place), (4, .int (nI i_3))]) hx hb dX9_locked_74 rfl hl (by decide) rfl (fun ls hl => ?_)
            refine lv_iinc (v := (nI (i_3 + 1))) (lv' := [(4, .int (nI (i_3 + 1))), (3, .int z_6), (0, .ref h), (1, .int cause), (2, .int place)]) hx hb dX9_locked_75 hl (k := 4) rfl (nI_1 i_3) (by decide) rfl (fun ls hl => ?_)
            refine lv_goto (tgt := 35) hx hb dX9_locked_78 (by decide) ?_
            exact ih_x_4 (i_3 + 1) z_6 (by omega) (by omega) (by subst ez_6; rw [show lp fx_4 (i_3 + 1) 0 = fx_4 i_3 (lp fx_4 i_3 0) from rfl, ← ex_x_4, hfx_4]; try (first | (rfl; done) | rfl)) _ _ hP hD hS _ (lv_sub hl [2, 3, 4, 1, 0] rfl)
      exact Lx_4 (18 + 1) 0 0 (by omega) (Nat.zero_le _) rfl _ _ hP hD hS _ (lv_sub hl [2, 3, 4, 1, 0] rfl)
    · skip
      refine lv_iload_n hx hb dX9_locked_17 rfl (lv_at hl 2 rfl) ?_
      refine lv_iconst (v := 0) hx hb dX9_locked_18 (by decide +kernel) ?_
      refine lv_bipush (v := 17) hx hb dX9_locked_19 (by decide +kernel) ?_
      refine k_Si ⟨hx, hb, hml, hown, hts⟩ (c_X9_within l D cI cJ cO place 0 17) (va_cwS 3 hts gX9_locked_X9_within rfl rfl rfl (by decide +kernel) ⟨Nat.le_of_ble_eq_true rfl, Nat.le_of_ble_eq_true rfl⟩) hK hN hP hD hS hA [] rfl rfl rfl (ws' := [(h, oX9 r M L), ((r 28), .inl (cI, 90, .inl a28))]) rfl rfl hl.1 rfl (Nat.le_of_ble_eq_true rfl) dX9_locked_21 ⟨Nat.le_refl _, Nat.le_refl _⟩ (fun H locs hP hD hS => ?_)
      refine lv_if_ne (tgt := 30) hx hb dX9_locked_24 (by decide) (fun c_7 => ?_) (fun c_7 => ?_)
      · skip
        refine lv_iconst (v := 0) hx hb dX9_locked_30 (by decide +kernel) ?_
        refine lv_istore_n (lv' := [(3, .int 0), (0, .ref h), (1, .int cause), (2, .int place)]) hx hb dX9_locked_31 rfl hl (by decide) rfl (fun ls hl => ?_)
        refine lv_iconst (v := 0) hx hb dX9_locked_32 (by decide +kernel) ?_
        refine lv_istore (lv' := [(4, .int 0), (3, .int 0), (0, .ref h), (1, .int cause), (2, .int place)]) hx hb dX9_locked_33 hl (by decide) rfl (fun ls hl => ?_)
        obtain ⟨fx_9, hfx_9⟩ : ∃ f : Nat → (Int32) → (Int32), f = (bd_X9_locked_35b a28 cause place) := ⟨_, rfl⟩
        have hB_x_9 : (18 : Int32) = nI 18 := by decide +kernel
        have hN_x_9 : 18 < 2 ^ 31 := by decide
        have Lx_9 : ∀ (nn i_8 : Nat) (x_9 : (Int32)), 18 + 1 ≤ i_8 + nn → i_8 ≤ 18 → x_9 = lp fx_9 i_8 0 → ∀ (H : Heap) (locs : List Loc), va_P D vwCl [(h, oX9 r M L), ((r 28), .inl (cI, 90, .inl a28))] H → va_D A [(h, oX9 r M L), ((r 28), .inl (cI, 90, .inl a28))] → va_S A s.heap H locs → ∀ ls : Array Slot, lv_has ls 5 [(0, .ref h), (1, .int cause), (2, .int place), (3, .int x_9), (4, .int (nI i_8))] → W p l e (RM 1) s m ([.ref h, .int cause, .int place] : List Value).toArray below meth c H locs 0 0 Q (F0 m 35 ls []) := by
          intro nn_x_9
          induction nn_x_9 with
          | zero => intro i_8 x_9 h1 h2; exact absurd h1 (by omega)
          | succ nn_x_9 ih_x_9 =>
            intro i_8 x_9 hn_x_9 hi_i_8 ex_x_9 H locs hP hD hS ls hl
            refine lv_iload hx hb dX9_locked_35 (lv_at hl 4 rfl) ?_
            refine lv_bipush (v := 18) hx hb dX9_locked_37 (by decide +kernel) ?_
            refine lv_icmp_ge (tgt := 81) hx hb dX9_locked_39 (by decide) (fun c_10 => ?_) (fun c_10 => ?_)
            · skip
              have hq_x_9 : i_8 = 18 := k_eq hB_x_9 c_10 hi_i_8 hN_x_9
              have ex_9 : x_9 = lp (bd_X9_locked_35b a28 cause place) 18 0 := by rw [ex_x_9, hfx_9, hq_x_9]
              refine lv_iload_n hx hb dX9_locked_81 rfl (lv_at hl 3 rfl) ?_
              have hsp : sp_X9_locked M L a28 cause place = x_9 := sq_X9_locked_2 M L a28 cause place x_9 ex_9 c_1 c_2 c_7
              exact hret _ _ _ _ _ (by rw [hsp]) rfl hP hS dX9_locked_82
            · skip
              have hlt_i_8 : i_8 < 18 := k_lt hB_x_9 c_10 hi_i_8 hN_x_9
              refine lv_iload_n hx hb dX9_locked_42 rfl (lv_at hl 3 rfl) ?_
              refine lv_iload_n hx hb dX9_locked_43 rfl (lv_at hl 2 rfl) ?_
              refine lv_bipush (v := (-9)) hx hb dX9_locked_44 (by decide +kernel) ?_
              refine lv_icmp_eq (tgt := 55) hx hb dX9_locked_46 (by decide) (fun q => absurd q c_2) (fun _ => ?_)
              refine lv_iload_n hx hb dX9_locked_49 rfl (lv_at hl 2 rfl) ?_
              refine lv_iload hx hb dX9_locked_50 (lv_at hl 4 rfl) ?_
              have J_12 : ∀ z_11 : Int32, z_11 = (if place = (nI i_8) then (a28 (((18 * (cause - 1)) + (nI i_8)).toNatClampNeg)) else 0) → ∀ (H : Heap) (locs : List Loc), va_P D vwCl [(h, oX9 r M L), ((r 28), .inl (cI, 90, .inl a28))] H → va_D A [(h, oX9 r M L), ((r 28), .inl (cI, 90, .inl a28))] → va_S A s.heap H locs → ∀ ls : Array Slot, lv_has ls 5 [(0, .ref h), (1, .int cause), (2, .int place), (4, .int (nI i_8))] → W p l e (RM 1) s m ([.ref h, .int cause, .int place] : List Value).toArray below meth c H locs 0 0 Q (F0 m 73 ls [.int z_11, .int x_9]) := by
                intro z_11 ez_11 H locs hP hD hS ls hl
                refine lv_iadd hx hb dX9_locked_73 ?_
                refine lv_istore_n (lv' := [(3, .int (x_9 + z_11)), (0, .ref h), (1, .int cause), (2, .int place), (4, .int (nI i_8))]) hx hb dX9_locked_74 rfl hl (by decide) rfl (fun ls hl => ?_)
                refine lv_iinc (v := (nI (i_8 + 1))) (lv' := [(4, .int (nI (i_8 + 1))), (3, .int (x_9 + z_11)), (0, .ref h), (1, .int cause), (2, .int place)]) hx hb dX9_locked_75 hl (k := 4) rfl (nI_1 i_8) (by decide) rfl (fun ls hl => ?_)
                refine lv_goto (tgt := 35) hx hb dX9_locked_78 (by decide) ?_
                exact ih_x_9 (i_8 + 1) (x_9 + z_11) (by omega) (by omega) (by subst ez_11; rw [show lp fx_9 (i_8 + 1) 0 = fx_9 i_8 (lp fx_9 i_8 0) from rfl, ← ex_x_9, hfx_9]; try (first | (rfl; done) | rfl)) _ _ hP hD hS _ (lv_sub hl [2, 3, 4, 1, 0] rfl)
              refine lv_icmp_ne (tgt := 72) hx hb dX9_locked_52 (by decide) (fun c_13 => ?_) (fun c_13 => ?_)
              · skip
                refine lv_iconst (v := 0) hx hb dX9_locked_72 (by decide +kernel) ?_
                exact J_12 0 (by first | (simp only [if_neg c_13]; done) | rfl) _ _ hP hD hS _ (lv_sub hl [0, 1, 2, 4] rfl)
              · skip
                refine lv_aload_n hx hb dX9_locked_55 rfl (lv_at hl 0 rfl) ?_
                refine k_get hx hb hts hi9 hown hK hP 0 rfl rfl 28 (by decide) hf41 (.ref (r 28)) rfl dX9_locked_56 ?_
                refine lv_bipush (v := 18) hx hb dX9_locked_59 (by decide +kernel) ?_
                refine lv_iload_n hx hb dX9_locked_61 rfl (lv_at hl 1 rfl) ?_
                refine lv_iconst (v := 1) hx hb dX9_locked_62 (by decide +kernel) ?_
                refine lv_isub hx hb dX9_locked_63 ?_
                refine lv_imul hx hb dX9_locked_64 ?_
                refine lv_iload hx hb dX9_locked_65 (lv_at hl 4 rfl) ?_
                refine lv_iadd hx hb dX9_locked_67 ?_
                refine k_iald hx hb hK hP 1 0 rfl rfl (((18 * (cause - 1)) + (nI i_8)).toNatClampNeg) (rfl) (lk_in c_1 (by omega)) dX9_locked_68 ?_
                refine lv_goto (tgt := 73) hx hb dX9_locked_69 (by decide) ?_
                exact J_12 (a28 (((18 * (cause - 1)) + (nI i_8)).toNatClampNeg)) (by first | (simp only [if_pos c_13]; done) | rfl) _ _ hP hD hS _ (lv_sub hl [0, 1, 2, 4] rfl)
        exact Lx_9 (18 + 1) 0 0 (by omega) (Nat.zero_le _) rfl _ _ hP hD hS _ (lv_sub hl [2, 3, 4, 1, 0] rfl)
      · skip
        refine lv_bipush (v := (-2)) hx hb dX9_locked_27 (by decide +kernel) ?_
        have hsp : sp_X9_locked M L a28 cause place = (-2) := by simp only [sp_X9_locked, if_neg c_1, if_neg c_2, if_pos c_7]
        exact hret _ _ _ _ _ (by rw [hsp]) rfl hP hS dX9_locked_29
  · skip
    refine lv_iconst (v := (-1)) hx hb dX9_locked_9 (by decide +kernel) ?_
    have hsp : sp_X9_locked M L a28 cause place = (-1) := by simp only [sp_X9_locked, if_pos c_1]
    exact hret _ _ _ _ _ (by rw [hsp]) rfl hP hS dX9_locked_10

def bd_X9_places_15 (a28 : Nat → Int32) (i_1 : Nat) (i_4 : Nat) (x_5 : (Int32)) : (Int32) :=
  (x_5 + (a28 (18 * i_4 + i_1)))
def bd_X9_places_4 (a28 : Nat → Int32) (i_1 : Nat) (x_2 : (Int32)) : (Int32) :=
  (let x_4 : (Int32) := lp (bd_X9_places_15 a28 i_1) 5 0; (let z_6 : Int32 := (if x_4 ≤ 0 then 0 else 1); (x_2 + z_6)))
def sp_X9_places (M : Nat → Int32) (L : Int64) (a28 : Nat → Int32) : Int32 :=
  let x_2 : (Int32) := lp (bd_X9_places_4 a28) 18 0
  x_2
set_option maxRecDepth 100000 in
theorem sq_X9_places_1 (M : Nat → Int32) (L : Int64) (a28 : Nat → Int32) (x_2 : (Int32)) (ex_2 : x_2 = lp (bd_X9_places_4 a28) 18 0) : sp_X9_places M L a28 = x_2 := by subst ex_2; rfl
set_option maxHeartbeats 4000000 in
set_option maxRecDepth 100000 in
theorem c_X9_places (l : Launch) (D : va_G) (cI cJ cO : ClassId) (h : Nat) (r : Nat → Nat) (M : Nat → Int32) (L : Int64) (a28 : Nat → Int32)  : MI l D (TY cI cJ cO) yX9_places wsX9_places (RM 0) [.ref h] [(h, oX9 r M L), ((r 28), .inl (cI, 90, .inl a28))] (sp_X9_places M L a28) [(h, oX9 r M L), ((r 28), .inl (cI, 90, .inl a28))] := by
  refine k_entI (cc := cX9_places) (maxL := 5) (lv := [(0, .ref h)]) (by decide +kernel) rfl (Nat.le_of_ble_eq_true rfl) rfl ?_
  intro p e s m below meth c A Q ls hx hb hml hts hown hA hS hP hD hK hN hl hret
  have hown : s.vm.findClass RX9 = some m.cls := hown
  have hi9 : ∀ w ∈ wsX90, w ∈ wsX9_places := fun w h => List.mem_cons_of_mem _ (List.mem_append_right _ h)
  have hf41 := hts (.fieldLink RX9 41 "PressGuardModel" "lockedAt" "[I") (by decide +kernel)
  refine lv_iconst (v := 0) hx hb dX9_places_0 (by decide +kernel) ?_
  refine lv_istore_n (lv' := [(1, .int 0), (0, .ref h)]) hx hb dX9_places_1 rfl hl (by decide) rfl (fun ls hl => ?_)
  refine lv_iconst (v := 0) hx hb dX9_places_2 (by decide +kernel) ?_
  refine lv_istore_n (lv' := [(2, .int 0), (1, .int 0), (0, .ref h)]) hx hb dX9_places_3 rfl hl (by decide) rfl (fun ls hl => ?_)
  obtain ⟨fx_2, hfx_2⟩ : ∃ f : Nat → (Int32) → (Int32), f = (bd_X9_places_4 a28) := ⟨_, rfl⟩
  have hB_x_2 : (18 : Int32) = nI 18 := by decide +kernel
  have hN_x_2 : 18 < 2 ^ 31 := by decide
  have Lx_2 : ∀ (nn i_1 : Nat) (x_2 : (Int32)), 18 + 1 ≤ i_1 + nn → i_1 ≤ 18 → x_2 = lp fx_2 i_1 0 → ∀ (H : Heap) (locs : List Loc), va_P D vwCl [(h, oX9 r M L), ((r 28), .inl (cI, 90, .inl a28))] H → va_D A [(h, oX9 r M L), ((r 28), .inl (cI, 90, .inl a28))] → va_S A s.heap H locs → ∀ ls : Array Slot, lv_has ls 5 [(0, .ref h), (1, .int x_2), (2, .int (nI i_1))] → W p l e (RM 0) s m ([.ref h] : List Value).toArray below meth c H locs 0 0 Q (F0 m 4 ls []) := by
    intro nn_x_2
    induction nn_x_2 with
    | zero => intro i_1 x_2 h1 h2; exact absurd h1 (by omega)
    | succ nn_x_2 ih_x_2 =>
      intro i_1 x_2 hn_x_2 hi_i_1 ex_x_2 H locs hP hD hS ls hl
      refine lv_iload_n hx hb dX9_places_4 rfl (lv_at hl 2 rfl) ?_
      refine lv_bipush (v := 18) hx hb dX9_places_5 (by decide +kernel) ?_
      refine lv_icmp_ge (tgt := 60) hx hb dX9_places_7 (by decide) (fun c_3 => ?_) (fun c_3 => ?_)
      · skip
        have hq_x_2 : i_1 = 18 := k_eq hB_x_2 c_3 hi_i_1 hN_x_2
        have ex_2 : x_2 = lp (bd_X9_places_4 a28) 18 0 := by rw [ex_x_2, hfx_2, hq_x_2]
        refine lv_iload_n hx hb dX9_places_60 rfl (lv_at hl 1 rfl) ?_
        have hsp : sp_X9_places M L a28 = x_2 := sq_X9_places_1 M L a28 x_2 ex_2
        exact hret _ _ _ _ _ (by rw [hsp]) rfl hP hS dX9_places_61
      · skip
        have hlt_i_1 : i_1 < 18 := k_lt hB_x_2 c_3 hi_i_1 hN_x_2
        refine lv_iconst (v := 0) hx hb dX9_places_10 (by decide +kernel) ?_
        refine lv_istore_n (lv' := [(3, .int 0), (0, .ref h), (1, .int x_2), (2, .int (nI i_1))]) hx hb dX9_places_11 rfl hl (by decide) rfl (fun ls hl => ?_)
        refine lv_iconst (v := 0) hx hb dX9_places_12 (by decide +kernel) ?_
        refine lv_istore (lv' := [(4, .int 0), (3, .int 0), (0, .ref h), (1, .int x_2), (2, .int (nI i_1))]) hx hb dX9_places_13 hl (by decide) rfl (fun ls hl => ?_)
        obtain ⟨fx_5, hfx_5⟩ : ∃ f : Nat → (Int32) → (Int32), f = (bd_X9_places_15 a28 i_1) := ⟨_, rfl⟩
        have hB_x_5 : (5 : Int32) = nI 5 := by decide +kernel
        have hN_x_5 : 5 < 2 ^ 31 := by decide
        have Lx_5 : ∀ (nn i_4 : Nat) (x_5 : (Int32)), 5 + 1 ≤ i_4 + nn → i_4 ≤ 5 → x_5 = lp fx_5 i_4 0 → ∀ (H : Heap) (locs : List Loc), va_P D vwCl [(h, oX9 r M L), ((r 28), .inl (cI, 90, .inl a28))] H → va_D A [(h, oX9 r M L), ((r 28), .inl (cI, 90, .inl a28))] → va_S A s.heap H locs → ∀ ls : Array Slot, lv_has ls 5 [(0, .ref h), (1, .int x_2), (2, .int (nI i_1)), (3, .int x_5), (4, .int (nI i_4))] → W p l e (RM 0) s m ([.ref h] : List Value).toArray below meth c H locs 0 0 Q (F0 m 15 ls []) := by
          intro nn_x_5
          induction nn_x_5 with
          | zero => intro i_4 x_5 h1 h2; exact absurd h1 (by omega)
          | succ nn_x_5 ih_x_5 =>
            intro i_4 x_5 hn_x_5 hi_i_4 ex_x_5 H locs hP hD hS ls hl
            refine lv_iload hx hb dX9_places_15 (lv_at hl 4 rfl) ?_
            refine lv_iconst (v := 5) hx hb dX9_places_17 (by decide +kernel) ?_
            refine lv_icmp_ge (tgt := 42) hx hb dX9_places_18 (by decide) (fun c_6 => ?_) (fun c_6 => ?_)
            · skip
              have hq_x_5 : i_4 = 5 := k_eq hB_x_5 c_6 hi_i_4 hN_x_5
              have ex_5 : x_5 = lp (bd_X9_places_15 a28 i_1) 5 0 := by rw [ex_x_5, hfx_5, hq_x_5]
              refine lv_iload_n hx hb dX9_places_42 rfl (lv_at hl 1 rfl) ?_
              refine lv_iload_n hx hb dX9_places_43 rfl (lv_at hl 3 rfl) ?_
              have J_8 : ∀ z_7 : Int32, z_7 = (if x_5 ≤ 0 then 0 else 1) → ∀ (H : Heap) (locs : List Loc), va_P D vwCl [(h, oX9 r M L), ((r 28), .inl (cI, 90, .inl a28))] H → va_D A [(h, oX9 r M L), ((r 28), .inl (cI, 90, .inl a28))] → va_S A s.heap H locs → ∀ ls : Array Slot, lv_has ls 5 [(0, .ref h), (2, .int (nI i_1))] → W p l e (RM 0) s m ([.ref h] : List Value).toArray below meth c H locs 0 0 Q (F0 m 52 ls [.int z_7, .int x_2]) := by
                intro z_7 ez_7 H locs hP hD hS ls hl
                refine lv_iadd hx hb dX9_places_52 ?_
                refine lv_istore_n (lv' := [(1, .int (x_2 + z_7)), (0, .ref h), (2, .int (nI i_1))]) hx hb dX9_places_53 rfl hl (by decide) rfl (fun ls hl => ?_)
                refine lv_iinc (v := (nI (i_1 + 1))) (lv' := [(2, .int (nI (i_1 + 1))), (1, .int (x_2 + z_7)), (0, .ref h)]) hx hb dX9_places_54 hl (k := 2) rfl (nI_1 i_1) (by decide) rfl (fun ls hl => ?_)
                refine lv_goto (tgt := 4) hx hb dX9_places_57 (by decide) ?_
                exact ih_x_2 (i_1 + 1) (x_2 + z_7) (by omega) (by omega) (by subst ez_7; subst ex_5; rw [show lp fx_2 (i_1 + 1) 0 = fx_2 i_1 (lp fx_2 i_1 0) from rfl, ← ex_x_2, hfx_2]; try (first | (rfl; done) | rfl)) _ _ hP hD hS _ (lv_sub hl [2, 1, 0] rfl)
              refine lv_if_le (tgt := 51) hx hb dX9_places_44 (by decide) (fun c_9 => ?_) (fun c_9 => ?_)
              · skip
                refine lv_iconst (v := 0) hx hb dX9_places_51 (by decide +kernel) ?_
                exact J_8 0 (by first | (simp only [if_pos c_9]; done) | rfl) _ _ hP hD hS _ (lv_sub hl [0, 2] rfl)
              · skip
                refine lv_iconst (v := 1) hx hb dX9_places_47 (by decide +kernel) ?_
                refine lv_goto (tgt := 52) hx hb dX9_places_48 (by decide) ?_
                exact J_8 1 (by first | (simp only [if_neg c_9]; done) | rfl) _ _ hP hD hS _ (lv_sub hl [0, 2] rfl)
            · skip
              have hlt_i_4 : i_4 < 5 := k_lt hB_x_5 c_6 hi_i_4 hN_x_5
              refine lv_iload_n hx hb dX9_places_21 rfl (lv_at hl 3 rfl) ?_
              refine lv_aload_n hx hb dX9_places_22 rfl (lv_at hl 0 rfl) ?_
              refine k_get hx hb hts hi9 hown hK hP 0 rfl rfl 28 (by decide) hf41 (.ref (r 28)) rfl dX9_places_23 ?_
              refine lv_bipush (v := 18) hx hb dX9_places_26 (by decide +kernel) ?_
              refine lv_iload hx hb dX9_places_28 (lv_at hl 4 rfl) ?_
              refine lv_imul hx hb dX9_places_30 ?_
              refine lv_iload_n hx hb dX9_places_31 rfl (lv_at hl 2 rfl) ?_
              refine lv_iadd hx hb dX9_places_32 ?_
              refine k_iald hx hb hK hP 1 0 rfl rfl (18 * i_4 + i_1) (by rw [n18]; exact nI_clamp (by omega)) (by rw [n18]; exact vp_in_nI (by omega) (by omega)) dX9_places_33 ?_
              refine lv_iadd hx hb dX9_places_34 ?_
              refine lv_istore_n (lv' := [(3, .int (x_5 + (a28 (18 * i_4 + i_1)))), (0, .ref h), (1, .int x_2), (2, .int (nI i_1)), (4, .int (nI i_4))]) hx hb dX9_places_35 rfl hl (by decide) rfl (fun ls hl => ?_)
              refine lv_iinc (v := (nI (i_4 + 1))) (lv' := [(4, .int (nI (i_4 + 1))), (3, .int (x_5 + (a28 (18 * i_4 + i_1)))), (0, .ref h), (1, .int x_2), (2, .int (nI i_1))]) hx hb dX9_places_36 hl (k := 4) rfl (nI_1 i_4) (by decide) rfl (fun ls hl => ?_)
              refine lv_goto (tgt := 15) hx hb dX9_places_39 (by decide) ?_
              exact ih_x_5 (i_4 + 1) (x_5 + (a28 (18 * i_4 + i_1))) (by omega) (by omega) (by rw [show lp fx_5 (i_4 + 1) 0 = fx_5 i_4 (lp fx_5 i_4 0) from rfl, ← ex_x_5, hfx_5]; try (first | (rfl; done) | rfl)) _ _ hP hD hS _ (lv_sub hl [2, 3, 4, 1, 0] rfl)
        exact Lx_5 (5 + 1) 0 0 (by omega) (Nat.zero_le _) rfl _ _ hP hD hS _ (lv_sub hl [2, 3, 4, 1, 0] rfl)
  exact Lx_2 (18 + 1) 0 0 (by omega) (Nat.zero_le _) rfl _ _ hP hD hS _ (lv_sub hl [2, 1, 0] rfl)

def bd_X9_comes_8 (M : Nat → Int32) (L : Int64) (a12 : Nat → Int32) (a36 : Nat → Int64) (a37 : Nat → Int32) (depth : Int32) (i_1 : Nat) (x_2 : Unit) : (Unit) ⊕ ((Nat → Int32) × (Nat → Int64) × (Nat → Int32)) :=
  (if (lg_cmp (a36 i_1) (sp_X9_stateOf M L a12)) = 0 then (if (a37 i_1) ≤ depth then (let z_5 : Int32 := (a37 i_1); (Sum.inr (M, a36, (upd a37 i_1 z_5)))) else (Sum.inr (M, a36, (upd a37 i_1 depth)))) else (Sum.inl ()))
def sp_X9_comes (M : Nat → Int32) (L : Int64) (a12 : Nat → Int32) (a36 : Nat → Int64) (a37 : Nat → Int32) (depth : Int32) : (Nat → Int32) × (Nat → Int64) × (Nat → Int32) :=
  sE (fun (x_2 : Unit) =>
    let z_3 : Int64 := (sp_X9_stateOf M L a12)
    let z_4 : Int32 := ((M 38) + 1)
    ((upd M 38 z_4), (vp_updL a36 ((M 38).toNatClampNeg) z_3), (upd a37 ((M 38).toNatClampNeg) depth))) (lq (bd_X9_comes_8 M L a12 a36 a37 depth) ((M 38).toNatClampNeg) 0 ())
set_option maxRecDepth 100000 in
theorem sq_X9_comes_1 (M : Nat → Int32) (L : Int64) (a12 : Nat → Int32) (a36 : Nat → Int64) (a37 : Nat → Int32) (depth : Int32) (x_2 : Unit) (z_3 : Int64) (z_4 : Int32) (ez_3 : z_3 = (sp_X9_stateOf M L a12)) (ez_4 : z_4 = ((M 38) + 1)) (hsx_x_2 : lq (bd_X9_comes_8 M L a12 a36 a37 depth) ((M 38).toNatClampNeg) 0 () = Sum.inl x_2) : sp_X9_comes M L a12 a36 a37 depth = ((upd M 38 z_4), (vp_updL a36 ((M 38).toNatClampNeg) z_3), (upd a37 ((M 38).toNatClampNeg) depth)) := by subst ez_4; subst ez_3; simp only [sp_X9_comes, hsx_x_2, sE_inl]
set_option maxRecDepth 100000 in
theorem sq_X9_comes_2 (M : Nat → Int32) (L : Int64) (a12 : Nat → Int32) (a36 : Nat → Int64) (a37 : Nat → Int32) (depth : Int32) (res : (Nat → Int32) × (Nat → Int64) × (Nat → Int32)) (hsr : lq (bd_X9_comes_8 M L a12 a36 a37 depth) ((M 38).toNatClampNeg) 0 () = Sum.inr res) : sp_X9_comes M L a12 a36 a37 depth = res := by simp only [sp_X9_comes, hsr, sE_inr]
set_option maxRecDepth 100000 in
theorem sq_X9_comes_3 (M : Nat → Int32) (L : Int64) (a12 : Nat → Int32) (a36 : Nat → Int64) (a37 : Nat → Int32) (depth : Int32) (res : (Nat → Int32) × (Nat → Int64) × (Nat → Int32)) (hsr : lq (bd_X9_comes_8 M L a12 a36 a37 depth) ((M 38).toNatClampNeg) 0 () = Sum.inr res) : sp_X9_comes M L a12 a36 a37 depth = res := by simp only [sp_X9_comes, hsr, sE_inr]
set_option maxHeartbeats 4000000 in
set_option maxRecDepth 100000 in
theorem c_X9_comes (l : Launch) (D : va_G) (cI cJ cO : ClassId) (h : Nat) (r : Nat → Nat) (M : Nat → Int32) (L : Int64) (a12 : Nat → Int32) (a36 : Nat → Int64) (a37 : Nat → Int32) (depth : Int32) (h0 : ¬ M 38 < 0) (h14 : (M 38).toNatClampNeg < 1400) : MV l D (TY cI cJ cO) yX9_comes wsX9_comes (RM 1) [.ref h, .int depth] [(h, oX9 r M L), ((r 12), .inl (cI, 3, .inl a12)), ((r 36), .inl (cJ, 1400, .inr (.inl a36))), ((r 37), .inl (cI, 1400, .inl a37))] [(h, oX9 r ((sp_X9_comes M L a12 a36 a37 depth).1) L), ((r 12), .inl (cI, 3, .inl a12)), ((r 36), .inl (cJ, 1400, .inr (.inl ((sp_X9_comes M L a12 a36 a37 depth).2.1)))), ((r 37), .inl (cI, 1400, .inl ((sp_X9_comes M L a12 a36 a37 depth).2.2)))] := by
  refine k_entV (cc := cX9_comes) (maxL := 5) (lv := [(0, .ref h), (1, .int depth)]) (by decide +kernel) rfl (Nat.le_of_ble_eq_true rfl) rfl ?_
  intro p e s m below meth c A Q ls hx hb hml hts hown hA hS hP hD hK hN hl hret
  have hown : s.vm.findClass RX9 = some m.cls := hown
  have hi9 : ∀ w ∈ wsX90, w ∈ wsX9_comes := fun w h => List.mem_cons_of_mem _ (List.mem_append_right _ h)
  have hf59 := hts (.fieldLink RX9 59 "PressGuardModel" "stateAt" "[J") (by decide +kernel)
  have hf63 := hts (.fieldLink RX9 63 "PressGuardModel" "depthAt" "[I") (by decide +kernel)
  have hf215 := hts (.fieldLink RX9 215 "PressGuardModel" "states" "I") (by decide +kernel)
  refine lv_aload_n hx hb dX9_comes_0 rfl (lv_at hl 0 rfl) ?_
  refine k_Vl ⟨hx, hb, hml, hown, hts⟩ (c_X9_stateOf l D cI cJ cO h r M L a12) (ci := 9) (q0 := 0) rfl rfl (cwV 0 hts gX9_comes_X9_stateOf rfl rfl rfl (by decide +kernel) ⟨Nat.le_of_ble_eq_true rfl, Nat.le_of_ble_eq_true rfl⟩) hK hN hP hD hS hA [0, 1] rfl rfl rfl (ws' := [(h, oX9 r M L), ((r 12), .inl (cI, 3, .inl a12)), ((r 36), .inl (cJ, 1400, .inr (.inl a36))), ((r 37), .inl (cI, 1400, .inl a37))]) rfl rfl hl.1 rfl (Nat.le_of_ble_eq_true rfl) dX9_comes_1 ⟨Nat.le_refl _, Nat.le_refl _⟩ (fun H locs hP hD hS => ?_)
  refine lv_lstore_n (lv' := [(2, .long (sp_X9_stateOf M L a12)), (0, .ref h), (1, .int depth)]) hx hb dX9_comes_4 rfl hl (by decide) rfl (fun ls hl => ?_)
  refine lv_iconst (v := 0) hx hb dX9_comes_5 (by decide +kernel) ?_
  refine lv_istore (lv' := [(4, .int 0), (2, .long (sp_X9_stateOf M L a12)), (0, .ref h), (1, .int depth)]) hx hb dX9_comes_6 hl (by decide) rfl (fun ls hl => ?_)
  obtain ⟨fx_2, hfx_2⟩ : ∃ f : Nat → Unit → (Unit) ⊕ ((Nat → Int32) × (Nat → Int64) × (Nat → Int32)), f = (bd_X9_comes_8 M L a12 a36 a37 depth) := ⟨_, rfl⟩
  have hB_x_2 : (M 38) = nI ((M 38).toNatClampNeg) := nI_self h0
  have hN_x_2 : (M 38).toNatClampNeg < 2 ^ 31 := clamp_lt _
  have Lx_2 : ∀ (nn i_1 : Nat) (x_2 : Unit), i_1 + nn = (M 38).toNatClampNeg → lq fx_2 nn i_1 x_2 = lq fx_2 ((M 38).toNatClampNeg) 0 () → ∀ (H : Heap) (locs : List Loc), va_P D vwCl [(h, oX9 r M L), ((r 12), .inl (cI, 3, .inl a12)), ((r 36), .inl (cJ, 1400, .inr (.inl a36))), ((r 37), .inl (cI, 1400, .inl a37))] H → va_D A [(h, oX9 r M L), ((r 12), .inl (cI, 3, .inl a12)), ((r 36), .inl (cJ, 1400, .inr (.inl a36))), ((r 37), .inl (cI, 1400, .inl a37))] → va_S A s.heap H locs → ∀ ls : Array Slot, lv_has ls 5 [(0, .ref h), (1, .int depth), (2, .long (sp_X9_stateOf M L a12)), (4, .int (nI i_1))] → W p l e (RM 1) s m ([.ref h, .int depth] : List Value).toArray below meth c H locs 0 0 Q (F0 m 8 ls []) := by
    intro nn_x_2
    induction nn_x_2 with
    | zero =>
      intro i_1 x_2 hi_i_1 hs_x_2 H locs hP hD hS ls hl
      refine lv_iload hx hb dX9_comes_8 (lv_at hl 3 rfl) ?_
      refine lv_aload_n hx hb dX9_comes_10 rfl (lv_at hl 0 rfl) ?_
      refine k_get hx hb hts hi9 hown hK hP 0 rfl rfl 38 (by decide) hf215 (.int (M 38)) rfl dX9_comes_11 ?_
      refine lv_icmp_ge (tgt := 65) hx hb dX9_comes_14 (by decide) (fun _ => ?_) (fun q => absurd (show _ ≤ _ by rw [hB_x_2]; exact nI_le (by omega) (by omega)) q)
      have hsx_x_2 : lq (bd_X9_comes_8 M L a12 a36 a37 depth) ((M 38).toNatClampNeg) 0 () = Sum.inl x_2 := by rw [← hfx_2, ← hs_x_2]; rfl
      refine lv_aload_n hx hb dX9_comes_65 rfl (lv_at hl 0 rfl) ?_
      refine k_get hx hb hts hi9 hown hK hP 0 rfl rfl 36 (by decide) hf59 (.ref (r 36)) rfl dX9_comes_66 ?_
      refine lv_aload_n hx hb dX9_comes_69 rfl (lv_at hl 0 rfl) ?_
      refine k_get hx hb hts hi9 hown hK hP 0 rfl rfl 38 (by decide) hf215 (.int (M 38)) rfl dX9_comes_70 ?_
      refine lv_lload_n hx hb dX9_comes_73 rfl (lv_at hl 2 rfl) ?_
      refine lv_topl (fun z_3 ez_3 => ?_)
      refine k_last hx hb hK hP hD hS 2 1 rfl rfl ((M 38).toNatClampNeg) (rfl) (cl_in h0 h14 (by decide)) (ws' := [(h, oX9 r M L), ((r 12), .inl (cI, 3, .inl a12)), ((r 36), .inl (cJ, 1400, .inr (.inl (vp_updL a36 ((M 38).toNatClampNeg) z_3)))), ((r 37), .inl (cI, 1400, .inl a37))]) rfl dX9_comes_74 (fun H locs hP hD hS => ?_)
      refine lv_aload_n hx hb dX9_comes_75 rfl (lv_at hl 0 rfl) ?_
      refine k_get hx hb hts hi9 hown hK hP 0 rfl rfl 37 (by decide) hf63 (.ref (r 37)) rfl dX9_comes_76 ?_
      refine lv_aload_n hx hb dX9_comes_79 rfl (lv_at hl 0 rfl) ?_
      refine k_get hx hb hts hi9 hown hK hP 0 rfl rfl 38 (by decide) hf215 (.int (M 38)) rfl dX9_comes_80 ?_
      refine lv_iload_n hx hb dX9_comes_83 rfl (lv_at hl 1 rfl) ?_
      refine k_iast hx hb hK hP hD hS 3 0 rfl rfl ((M 38).toNatClampNeg) (rfl) (cl_in h0 h14 (by decide)) (ws' := [(h, oX9 r M L), ((r 12), .inl (cI, 3, .inl a12)), ((r 36), .inl (cJ, 1400, .inr (.inl (vp_updL a36 ((M 38).toNatClampNeg) z_3)))), ((r 37), .inl (cI, 1400, .inl (upd a37 ((M 38).toNatClampNeg) depth)))]) rfl dX9_comes_84 (fun H locs hP hD hS => ?_)
      refine lv_aload_n hx hb dX9_comes_85 rfl (lv_at hl 0 rfl) ?_
      refine lv_dup hx hb dX9_comes_86 rfl ?_
      refine k_get hx hb hts hi9 hown hK hP 0 rfl rfl 38 (by decide) hf215 (.int (M 38)) rfl dX9_comes_87 ?_
      refine lv_iconst (v := 1) hx hb dX9_comes_90 (by decide +kernel) ?_
      refine lv_iadd hx hb dX9_comes_91 ?_
      refine lv_topi (fun z_4 ez_4 => ?_)
      refine k_put hx hb hts hi9 tyX9_ok nmX9 hown hK hP hD hS 0 rfl rfl 38 (by decide) hf215 rfl (.int z_4) rfl rfl (Nat.le_of_ble_eq_true rfl) (ws' := [(h, oX9 r (upd M 38 z_4) L), ((r 12), .inl (cI, 3, .inl a12)), ((r 36), .inl (cJ, 1400, .inr (.inl (vp_updL a36 ((M 38).toNatClampNeg) z_3)))), ((r 37), .inl (cI, 1400, .inl (upd a37 ((M 38).toNatClampNeg) depth)))]) rfl dX9_comes_92 (fun H locs hP hD hS => ?_)
      have hsp : sp_X9_comes M L a12 a36 a37 depth = ((upd M 38 z_4), (vp_updL a36 ((M 38).toNatClampNeg) z_3), (upd a37 ((M 38).toNatClampNeg) depth)) := sq_X9_comes_1 M L a12 a36 a37 depth x_2 z_3 z_4 ez_3 ez_4 hsx_x_2
      exact hret _ _ _ _ (by rw [hsp]; exact hP) hS dX9_comes_95
    | succ nn_x_2 ih_x_2 =>
      intro i_1 x_2 hi_i_1 hs_x_2 H locs hP hD hS ls hl
      have hlt_i_1 : i_1 < (M 38).toNatClampNeg := by omega
      refine lv_iload hx hb dX9_comes_8 (lv_at hl 3 rfl) ?_
      refine lv_aload_n hx hb dX9_comes_10 rfl (lv_at hl 0 rfl) ?_
      refine k_get hx hb hts hi9 hown hK hP 0 rfl rfl 38 (by decide) hf215 (.int (M 38)) rfl dX9_comes_11 ?_
      refine lv_icmp_ge (tgt := 65) hx hb dX9_comes_14 (by decide) (fun q => absurd q (by rw [hB_x_2]; exact nI_ge hlt_i_1 hN_x_2)) (fun _ => ?_)
      refine lv_aload_n hx hb dX9_comes_17 rfl (lv_at hl 0 rfl) ?_
      refine k_get hx hb hts hi9 hown hK hP 0 rfl rfl 36 (by decide) hf59 (.ref (r 36)) rfl dX9_comes_18 ?_
      refine lv_iload hx hb dX9_comes_21 (lv_at hl 3 rfl) ?_
      refine k_lald hx hb hK hP 2 1 rfl rfl i_1 (nI_clamp (by omega)) (vp_in_nI (by omega) (by omega)) dX9_comes_23 ?_
      refine lv_lload_n hx hb dX9_comes_24 rfl (lv_at hl 2 rfl) ?_
      refine W.lcmp hx hb dX9_comes_25 ?_
      refine lv_if_ne (tgt := 59) hx hb dX9_comes_26 (by decide) (fun c_5 => ?_) (fun c_5 => ?_)
      · skip
        refine lv_iinc (v := (nI (i_1 + 1))) (lv' := [(4, .int (nI (i_1 + 1))), (0, .ref h), (1, .int depth), (2, .long (sp_X9_stateOf M L a12))]) hx hb dX9_comes_59 hl (k := 3) rfl (nI_1 i_1) (by decide) rfl (fun ls hl => ?_)
        refine lv_goto (tgt := 8) hx hb dX9_comes_62 (by decide) ?_
        exact ih_x_2 (i_1 + 1) () (by omega) (by rw [← hs_x_2]; exact (lq_inl (by rw [hfx_2]; simp only [bd_X9_comes_8, if_neg c_5])).symm) _ _ hP hD hS _ (lv_sub hl [1, 2, 3, 0] rfl)
      · skip
        refine lv_aload_n hx hb dX9_comes_29 rfl (lv_at hl 0 rfl) ?_
        refine k_get hx hb hts hi9 hown hK hP 0 rfl rfl 37 (by decide) hf63 (.ref (r 37)) rfl dX9_comes_30 ?_
        refine lv_iload hx hb dX9_comes_33 (lv_at hl 3 rfl) ?_
        refine lv_iload_n hx hb dX9_comes_35 rfl (lv_at hl 1 rfl) ?_
        refine lv_aload_n hx hb dX9_comes_36 rfl (lv_at hl 0 rfl) ?_
        refine k_get hx hb hts hi9 hown hK hP 0 rfl rfl 37 (by decide) hf63 (.ref (r 37)) rfl dX9_comes_37 ?_
        refine lv_iload hx hb dX9_comes_40 (lv_at hl 3 rfl) ?_
        refine k_iald hx hb hK hP 3 0 rfl rfl i_1 (nI_clamp (by omega)) (vp_in_nI (by omega) (by omega)) dX9_comes_42 ?_
        refine lv_icmp_ge (tgt := 50) hx hb dX9_comes_43 (by decide) (fun c_6 => ?_) (fun c_6 => ?_)
        · skip
          refine lv_aload_n hx hb dX9_comes_50 rfl (lv_at hl 0 rfl) ?_
          refine k_get hx hb hts hi9 hown hK hP 0 rfl rfl 37 (by decide) hf63 (.ref (r 37)) rfl dX9_comes_51 ?_
          refine lv_iload hx hb dX9_comes_54 (lv_at hl 3 rfl) ?_
          refine k_iald hx hb hK hP 3 0 rfl rfl i_1 (nI_clamp (by omega)) (vp_in_nI (by omega) (by omega)) dX9_comes_56 ?_
          refine lv_topi (fun z_7 ez_7 => ?_)
          refine k_iast hx hb hK hP hD hS 3 0 rfl rfl i_1 (nI_clamp (by omega)) (vp_in_nI (by omega) (by omega)) (ws' := [(h, oX9 r M L), ((r 12), .inl (cI, 3, .inl a12)), ((r 36), .inl (cJ, 1400, .inr (.inl a36))), ((r 37), .inl (cI, 1400, .inl (upd a37 i_1 z_7)))]) rfl dX9_comes_57 (fun H locs hP hD hS => ?_)
          have hsr : lq (bd_X9_comes_8 M L a12 a36 a37 depth) ((M 38).toNatClampNeg) 0 () = Sum.inr (M, a36, (upd a37 i_1 z_7)) := by rw [← hfx_2, ← hs_x_2]; exact lq_inr (by subst ez_7; rw [hfx_2]; simp only [bd_X9_comes_8, if_pos c_5, if_pos c_6])
          have hsp : sp_X9_comes M L a12 a36 a37 depth = (M, a36, (upd a37 i_1 z_7)) := sq_X9_comes_2 M L a12 a36 a37 depth (M, a36, (upd a37 i_1 z_7)) hsr
          exact hret _ _ _ _ (by rw [hsp]; exact hP) hS dX9_comes_58
        · skip
          refine lv_iload_n hx hb dX9_comes_46 rfl (lv_at hl 1 rfl) ?_
          refine lv_goto (tgt := 57) hx hb dX9_comes_47 (by decide) ?_
          refine k_iast hx hb hK hP hD hS 3 0 rfl rfl i_1 (nI_clamp (by omega)) (vp_in_nI (by omega) (by omega)) (ws' := [(h, oX9 r M L), ((r 12), .inl (cI, 3, .inl a12)), ((r 36), .inl (cJ, 1400, .inr (.inl a36))), ((r 37), .inl (cI, 1400, .inl (upd a37 i_1 depth)))]) rfl dX9_comes_57 (fun H locs hP hD hS => ?_)
          have hsr : lq (bd_X9_comes_8 M L a12 a36 a37 depth) ((M 38).toNatClampNeg) 0 () = Sum.inr (M, a36, (upd a37 i_1 depth)) := by rw [← hfx_2, ← hs_x_2]; exact lq_inr (by rw [hfx_2]; simp only [bd_X9_comes_8, if_pos c_5, if_neg c_6])
          have hsp : sp_X9_comes M L a12 a36 a37 depth = (M, a36, (upd a37 i_1 depth)) := sq_X9_comes_3 M L a12 a36 a37 depth (M, a36, (upd a37 i_1 depth)) hsr
          exact hret _ _ _ _ (by rw [hsp]; exact hP) hS dX9_comes_58
  exact Lx_2 ((M 38).toNatClampNeg) 0 () (by omega) rfl _ _ hP hD hS _ (lv_sub hl [2, 3, 1, 0] rfl)

def bd_X9_leadsTo_30 (M : Nat → Int32) (L : Int64) (a5 : Nat → Int32) (a6 : Nat → Int32) (a12 : Nat → Int32) (wanted : Int32) (i_2 : Nat) (x_3 : (Nat → Int32) × Int64 × (Nat → Int32) × Int32) : ((Nat → Int32) × Int64 × (Nat → Int32) × Int32) ⊕ (Int32 × (Nat → Int32) × (Int64) × (Nat → Int32)) :=
  (if (x_3.2.2.2) = (-9) then (let M_5 : Nat → Int32 := ((sp_X9_tickBy (x_3.1) (x_3.2.1) a5 a6 (x_3.2.2.1) (nI i_2)).1); (let a_6 : Nat → Int32 := ((sp_X9_tickBy (x_3.1) (x_3.2.1) a5 a6 (x_3.2.2.1) (nI i_2)).2); (let z_7 : Int32 := (if (M_5 7) = wanted then (nI i_2) else (-9)); (let M_9 : Nat → Int32 := ((sp_X9_becomes M_5 (x_3.2.1) a_6 (sp_X9_stateOf M L a12) (M 18)).1); (let L_10 : Int64 := ((sp_X9_becomes M_5 (x_3.2.1) a_6 (sp_X9_stateOf M L a12) (M 18)).2.1); (let a_11 : Nat → Int32 := ((sp_X9_becomes M_5 (x_3.2.1) a_6 (sp_X9_stateOf M L a12) (M 18)).2.2); (Sum.inl (M_9, L_10, a_11, z_7)))))))) else (Sum.inr ((x_3.2.2.2), (x_3.1), (x_3.2.1), (x_3.2.2.1))))
def sp_X9_leadsTo (M : Nat → Int32) (L : Int64) (a5 : Nat → Int32) (a6 : Nat → Int32) (a12 : Nat → Int32) (wanted : Int32) : Int32 × (Nat → Int32) × (Int64) × (Nat → Int32) :=
  (if (sp_X9_within wanted 0 4) = 0 then
    ((-2), M, L, a12)
  else
    sE (fun (x_3 : (Nat → Int32) × Int64 × (Nat → Int32) × Int32) =>
      ((x_3.2.2.2), (x_3.1), (x_3.2.1), (x_3.2.2.1))) (lq (bd_X9_leadsTo_30 M L a5 a6 a12 wanted) 512 0 (M, L, a12, (-9))))
set_option maxRecDepth 100000 in
theorem sq_X9_leadsTo_1 (M : Nat → Int32) (L : Int64) (a5 : Nat → Int32) (a6 : Nat → Int32) (a12 : Nat → Int32) (wanted : Int32) (x_3 : (Nat → Int32) × Int64 × (Nat → Int32) × Int32) (c_1 : ¬ ((sp_X9_within wanted 0 4) = 0)) (hsx_x_3 : lq (bd_X9_leadsTo_30 M L a5 a6 a12 wanted) 512 0 (M, L, a12, (-9)) = Sum.inl x_3) : sp_X9_leadsTo M L a5 a6 a12 wanted = ((x_3.2.2.2), (x_3.1), (x_3.2.1), (x_3.2.2.1)) := by simp only [sp_X9_leadsTo, if_neg c_1, hsx_x_3, sE_inl]
set_option maxRecDepth 100000 in
theorem sq_X9_leadsTo_2 (M : Nat → Int32) (L : Int64) (a5 : Nat → Int32) (a6 : Nat → Int32) (a12 : Nat → Int32) (wanted : Int32) (res : Int32 × (Nat → Int32) × (Int64) × (Nat → Int32)) (c_1 : ¬ ((sp_X9_within wanted 0 4) = 0)) (hsr : lq (bd_X9_leadsTo_30 M L a5 a6 a12 wanted) 512 0 (M, L, a12, (-9)) = Sum.inr res) : sp_X9_leadsTo M L a5 a6 a12 wanted = res := by simp only [sp_X9_leadsTo, if_neg c_1, hsr, sE_inr]
set_option maxHeartbeats 4000000 in
set_option maxRecDepth 100000 in
theorem c_X9_leadsTo (l : Launch) (D : va_G) (cI cJ cO : ClassId) (h : Nat) (r : Nat → Nat) (M : Nat → Int32) (L : Int64) (a5 : Nat → Int32) (a6 : Nat → Int32) (a12 : Nat → Int32) (wanted : Int32)  : MI l D (TY cI cJ cO) yX9_leadsTo wsX9_leadsTo (RM 3) [.ref h, .int wanted] [(h, oX9 r M L), ((r 5), .inl (cI, 9, .inl a5)), ((r 6), .inl (cI, 2, .inl a6)), ((r 12), .inl (cI, 3, .inl a12))] ((sp_X9_leadsTo M L a5 a6 a12 wanted).1) [(h, oX9 r ((sp_X9_leadsTo M L a5 a6 a12 wanted).2.1) ((sp_X9_leadsTo M L a5 a6 a12 wanted).2.2.1)), ((r 5), .inl (cI, 9, .inl a5)), ((r 6), .inl (cI, 2, .inl a6)), ((r 12), .inl (cI, 3, .inl ((sp_X9_leadsTo M L a5 a6 a12 wanted).2.2.2)))] := by
  refine k_entI (cc := cX9_leadsTo) (maxL := 7) (lv := [(0, .ref h), (1, .int wanted)]) (by decide +kernel) rfl (Nat.le_of_ble_eq_true rfl) rfl ?_
  intro p e s m below meth c A Q ls hx hb hml hts hown hA hS hP hD hK hN hl hret
  have hown : s.vm.findClass RX9 = some m.cls := hown
  have hi9 : ∀ w ∈ wsX90, w ∈ wsX9_leadsTo := fun w h => List.mem_cons_of_mem _ (List.mem_append_right _ h)
  have hf32 := hts (.fieldLink RX9 32 "PressGuardModel" "mode" "I") (by decide +kernel)
  have hf38 := hts (.fieldLink RX9 38 "PressGuardModel" "lockedBy" "I") (by decide +kernel)
  refine lv_iload_n hx hb dX9_leadsTo_0 rfl (lv_at hl 1 rfl) ?_
  refine lv_iconst (v := 0) hx hb dX9_leadsTo_1 (by decide +kernel) ?_
  refine lv_iconst (v := 4) hx hb dX9_leadsTo_2 (by decide +kernel) ?_
  refine k_Si ⟨hx, hb, hml, hown, hts⟩ (c_X9_within l D cI cJ cO wanted 0 4) (va_cwS 3 hts gX9_leadsTo_X9_within rfl rfl rfl (by decide +kernel) ⟨Nat.le_of_ble_eq_true rfl, Nat.le_of_ble_eq_true rfl⟩) hK hN hP hD hS hA [] rfl rfl rfl (ws' := [(h, oX9 r M L), ((r 5), .inl (cI, 9, .inl a5)), ((r 6), .inl (cI, 2, .inl a6)), ((r 12), .inl (cI, 3, .inl a12))]) rfl rfl hl.1 rfl (Nat.le_of_ble_eq_true rfl) dX9_leadsTo_3 ⟨Nat.le_refl _, Nat.le_refl _⟩ (fun H locs hP hD hS => ?_)
  refine lv_if_ne (tgt := 12) hx hb dX9_leadsTo_6 (by decide) (fun c_1 => ?_) (fun c_1 => ?_)
  · skip
    refine lv_aload_n hx hb dX9_leadsTo_12 rfl (lv_at hl 0 rfl) ?_
    refine k_Vl ⟨hx, hb, hml, hown, hts⟩ (c_X9_stateOf l D cI cJ cO h r M L a12) (ci := 9) (q0 := 0) rfl rfl (cwV 0 hts gX9_leadsTo_X9_stateOf rfl rfl rfl (by decide +kernel) ⟨Nat.le_of_ble_eq_true rfl, Nat.le_of_ble_eq_true rfl⟩) hK hN hP hD hS hA [0, 3] rfl rfl rfl (ws' := [(h, oX9 r M L), ((r 5), .inl (cI, 9, .inl a5)), ((r 6), .inl (cI, 2, .inl a6)), ((r 12), .inl (cI, 3, .inl a12))]) rfl rfl hl.1 rfl (Nat.le_of_ble_eq_true rfl) dX9_leadsTo_13 ⟨Nat.le_refl _, Nat.le_refl _⟩ (fun H locs hP hD hS => ?_)
    refine lv_lstore_n (lv' := [(2, .long (sp_X9_stateOf M L a12)), (0, .ref h), (1, .int wanted)]) hx hb dX9_leadsTo_16 rfl hl (by decide) rfl (fun ls hl => ?_)
    refine lv_aload_n hx hb dX9_leadsTo_17 rfl (lv_at hl 1 rfl) ?_
    refine k_get hx hb hts hi9 hown hK hP 0 rfl rfl 18 (by decide) hf38 (.int (M 18)) rfl dX9_leadsTo_18 ?_
    refine lv_istore (lv' := [(4, .int (M 18)), (2, .long (sp_X9_stateOf M L a12)), (0, .ref h), (1, .int wanted)]) hx hb dX9_leadsTo_21 hl (by decide) rfl (fun ls hl => ?_)
    refine lv_bipush (v := (-9)) hx hb dX9_leadsTo_23 (by decide +kernel) ?_
    refine lv_istore (lv' := [(5, .int (-9)), (4, .int (M 18)), (2, .long (sp_X9_stateOf M L a12)), (0, .ref h), (1, .int wanted)]) hx hb dX9_leadsTo_25 hl (by decide) rfl (fun ls hl => ?_)
    refine lv_iconst (v := 0) hx hb dX9_leadsTo_27 (by decide +kernel) ?_
    refine lv_istore (lv' := [(6, .int 0), (5, .int (-9)), (4, .int (M 18)), (2, .long (sp_X9_stateOf M L a12)), (0, .ref h), (1, .int wanted)]) hx hb dX9_leadsTo_28 hl (by decide) rfl (fun ls hl => ?_)
    obtain ⟨fx_3, hfx_3⟩ : ∃ f : Nat → (Nat → Int32) × Int64 × (Nat → Int32) × Int32 → ((Nat → Int32) × Int64 × (Nat → Int32) × Int32) ⊕ (Int32 × (Nat → Int32) × (Int64) × (Nat → Int32)), f = (bd_X9_leadsTo_30 M L a5 a6 a12 wanted) := ⟨_, rfl⟩
    have hB_x_3 : (512 : Int32) = nI 512 := by decide +kernel
    have hN_x_3 : 512 < 2 ^ 31 := by decide
    have Lx_3 : ∀ (nn i_2 : Nat) (x_3 : (Nat → Int32) × Int64 × (Nat → Int32) × Int32), i_2 + nn = 512 → lq fx_3 nn i_2 x_3 = lq fx_3 512 0 (M, L, a12, (-9)) → ∀ (H : Heap) (locs : List Loc), va_P D vwCl [(h, oX9 r (x_3.1) (x_3.2.1)), ((r 5), .inl (cI, 9, .inl a5)), ((r 6), .inl (cI, 2, .inl a6)), ((r 12), .inl (cI, 3, .inl (x_3.2.2.1)))] H → va_D A [(h, oX9 r (x_3.1) (x_3.2.1)), ((r 5), .inl (cI, 9, .inl a5)), ((r 6), .inl (cI, 2, .inl a6)), ((r 12), .inl (cI, 3, .inl (x_3.2.2.1)))] → va_S A s.heap H locs → ∀ ls : Array Slot, lv_has ls 7 [(0, .ref h), (1, .int wanted), (2, .long (sp_X9_stateOf M L a12)), (4, .int (M 18)), (5, .int (x_3.2.2.2)), (6, .int (nI i_2))] → W p l e (RM 3) s m ([.ref h, .int wanted] : List Value).toArray below meth c H locs 0 0 Q (F0 m 30 ls []) := by
      intro nn_x_3
      induction nn_x_3 with
      | zero =>
        intro i_2 x_3 hi_i_2 hs_x_3 H locs hP hD hS ls hl
        refine lv_iload hx hb dX9_leadsTo_30 (lv_at hl 5 rfl) ?_
        refine lv_sipush (v := 512) hx hb dX9_leadsTo_32 (by decide +kernel) ?_
        refine lv_icmp_ge (tgt := 81) hx hb dX9_leadsTo_35 (by decide) (fun _ => ?_) (fun q => absurd (show _ ≤ _ by rw [hB_x_3]; exact nI_le (by omega) (by omega)) q)
        have hsx_x_3 : lq (bd_X9_leadsTo_30 M L a5 a6 a12 wanted) 512 0 (M, L, a12, (-9)) = Sum.inl x_3 := by rw [← hfx_3, ← hs_x_3]; rfl
        refine lv_iload hx hb dX9_leadsTo_81 (lv_at hl 4 rfl) ?_
        have hsp : sp_X9_leadsTo M L a5 a6 a12 wanted = ((x_3.2.2.2), (x_3.1), (x_3.2.1), (x_3.2.2.1)) := sq_X9_leadsTo_1 M L a5 a6 a12 wanted x_3 c_1 hsx_x_3
        exact hret _ _ _ _ _ (by rw [hsp]) rfl (by rw [hsp]; exact hP) hS dX9_leadsTo_83
      | succ nn_x_3 ih_x_3 =>
        intro i_2 x_3 hi_i_2 hs_x_3 H locs hP hD hS ls hl
        have hlt_i_2 : i_2 < 512 := by omega
        refine lv_iload hx hb dX9_leadsTo_30 (lv_at hl 5 rfl) ?_
        refine lv_sipush (v := 512) hx hb dX9_leadsTo_32 (by decide +kernel) ?_
        refine lv_icmp_ge (tgt := 81) hx hb dX9_leadsTo_35 (by decide) (fun q => absurd q (by rw [hB_x_3]; exact nI_ge hlt_i_2 hN_x_3)) (fun _ => ?_)
        refine lv_iload hx hb dX9_leadsTo_38 (lv_at hl 4 rfl) ?_
        refine lv_bipush (v := (-9)) hx hb dX9_leadsTo_40 (by decide +kernel) ?_
        refine lv_icmp_ne (tgt := 81) hx hb dX9_leadsTo_42 (by decide) (fun c_4 => ?_) (fun c_4 => ?_)
        · skip
          refine lv_iload hx hb dX9_leadsTo_81 (lv_at hl 4 rfl) ?_
          have hsr : lq (bd_X9_leadsTo_30 M L a5 a6 a12 wanted) 512 0 (M, L, a12, (-9)) = Sum.inr ((x_3.2.2.2), (x_3.1), (x_3.2.1), (x_3.2.2.1)) := by rw [← hfx_3, ← hs_x_3]; exact lq_inr (by rw [hfx_3]; simp only [bd_X9_leadsTo_30, if_neg c_4])
          have hsp : sp_X9_leadsTo M L a5 a6 a12 wanted = ((x_3.2.2.2), (x_3.1), (x_3.2.1), (x_3.2.2.1)) := sq_X9_leadsTo_2 M L a5 a6 a12 wanted ((x_3.2.2.2), (x_3.1), (x_3.2.1), (x_3.2.2.1)) c_1 hsr
          exact hret _ _ _ _ _ (by rw [hsp]) rfl (by rw [hsp]; exact hP) hS dX9_leadsTo_83
        · skip
          refine lv_aload_n hx hb dX9_leadsTo_45 rfl (lv_at hl 0 rfl) ?_
          refine lv_iload hx hb dX9_leadsTo_46 (lv_at hl 5 rfl) ?_
          obtain ⟨M_5, eM_5⟩ : ∃ q : Nat → Int32, q = ((sp_X9_tickBy (x_3.1) (x_3.2.1) a5 a6 (x_3.2.2.1) (nI i_2)).1) := ⟨_, rfl⟩
          obtain ⟨a_6, ea_6⟩ : ∃ q : Nat → Int32, q = ((sp_X9_tickBy (x_3.1) (x_3.2.1) a5 a6 (x_3.2.2.1) (nI i_2)).2) := ⟨_, rfl⟩
          refine k_Vv ⟨hx, hb, hml, hown, hts⟩ (c_X9_tickBy l D cI cJ cO h r (x_3.1) (x_3.2.1) a5 a6 (x_3.2.2.1) (nI i_2)) (ci := 9) (q0 := 0) rfl rfl (cwV 1 hts gX9_leadsTo_X9_tickBy rfl rfl rfl (by decide +kernel) ⟨Nat.le_of_ble_eq_true rfl, Nat.le_of_ble_eq_true rfl⟩) hK hN hP hD hS hA [0, 1, 2, 3] rfl rfl rfl (ws' := [(h, oX9 r M_5 (x_3.2.1)), ((r 5), .inl (cI, 9, .inl a5)), ((r 6), .inl (cI, 2, .inl a6)), ((r 12), .inl (cI, 3, .inl a_6))]) (by rw [eM_5, ea_6]; rfl) rfl hl.1 rfl (Nat.le_of_ble_eq_true rfl) dX9_leadsTo_48 ⟨Nat.le_refl _, Nat.le_refl _⟩ (fun H locs hP hD hS => ?_)
          refine lv_aload_n hx hb dX9_leadsTo_51 rfl (lv_at hl 0 rfl) ?_
          refine k_get hx hb hts hi9 hown hK hP 0 rfl rfl 7 (by decide) hf32 (.int (M_5 7)) rfl dX9_leadsTo_52 ?_
          refine lv_iload_n hx hb dX9_leadsTo_55 rfl (lv_at hl 1 rfl) ?_
          have J_8 : ∀ z_7 : Int32, z_7 = (if (M_5 7) = wanted then (nI i_2) else (-9)) → ∀ (H : Heap) (locs : List Loc), va_P D vwCl [(h, oX9 r M_5 (x_3.2.1)), ((r 5), .inl (cI, 9, .inl a5)), ((r 6), .inl (cI, 2, .inl a6)), ((r 12), .inl (cI, 3, .inl a_6))] H → va_D A [(h, oX9 r M_5 (x_3.2.1)), ((r 5), .inl (cI, 9, .inl a5)), ((r 6), .inl (cI, 2, .inl a6)), ((r 12), .inl (cI, 3, .inl a_6))] → va_S A s.heap H locs → ∀ ls : Array Slot, lv_has ls 7 [(0, .ref h), (1, .int wanted), (2, .long (sp_X9_stateOf M L a12)), (4, .int (M 18)), (6, .int (nI i_2))] → W p l e (RM 3) s m ([.ref h, .int wanted] : List Value).toArray below meth c H locs 0 0 Q (F0 m 66 ls [.int z_7]) := by
            intro z_7 ez_7 H locs hP hD hS ls hl
            refine lv_istore (lv' := [(5, .int z_7), (0, .ref h), (1, .int wanted), (2, .long (sp_X9_stateOf M L a12)), (4, .int (M 18)), (6, .int (nI i_2))]) hx hb dX9_leadsTo_66 hl (by decide) rfl (fun ls hl => ?_)
            refine lv_aload_n hx hb dX9_leadsTo_68 rfl (lv_at hl 1 rfl) ?_
            refine lv_lload_n hx hb dX9_leadsTo_69 rfl (lv_at hl 3 rfl) ?_
            refine lv_iload hx hb dX9_leadsTo_70 (lv_at hl 4 rfl) ?_
            obtain ⟨M_9, eM_9⟩ : ∃ q : Nat → Int32, q = ((sp_X9_becomes M_5 (x_3.2.1) a_6 (sp_X9_stateOf M L a12) (M 18)).1) := ⟨_, rfl⟩
            obtain ⟨L_10, eL_10⟩ : ∃ q : Int64, q = ((sp_X9_becomes M_5 (x_3.2.1) a_6 (sp_X9_stateOf M L a12) (M 18)).2.1) := ⟨_, rfl⟩
            obtain ⟨a_11, ea_11⟩ : ∃ q : Nat → Int32, q = ((sp_X9_becomes M_5 (x_3.2.1) a_6 (sp_X9_stateOf M L a12) (M 18)).2.2) := ⟨_, rfl⟩
            refine k_Vv ⟨hx, hb, hml, hown, hts⟩ (c_X9_becomes l D cI cJ cO h r M_5 (x_3.2.1) a_6 (sp_X9_stateOf M L a12) (M 18)) (ci := 9) (q0 := 0) rfl rfl (cwV 2 hts gX9_leadsTo_X9_becomes rfl rfl rfl (by decide +kernel) ⟨Nat.le_of_ble_eq_true rfl, Nat.le_of_ble_eq_true rfl⟩) hK hN hP hD hS hA [0, 3] rfl rfl rfl (ws' := [(h, oX9 r M_9 L_10), ((r 5), .inl (cI, 9, .inl a5)), ((r 6), .inl (cI, 2, .inl a6)), ((r 12), .inl (cI, 3, .inl a_11))]) (by rw [eM_9, eL_10, ea_11]; rfl) rfl hl.1 rfl (Nat.le_of_ble_eq_true rfl) dX9_leadsTo_72 ⟨Nat.le_refl _, Nat.le_refl _⟩ (fun H locs hP hD hS => ?_)
            refine lv_iinc (v := (nI (i_2 + 1))) (lv' := [(6, .int (nI (i_2 + 1))), (5, .int z_7), (0, .ref h), (1, .int wanted), (2, .long (sp_X9_stateOf M L a12)), (4, .int (M 18))]) hx hb dX9_leadsTo_75 hl (k := 5) rfl (nI_1 i_2) (by decide) rfl (fun ls hl => ?_)
            refine lv_goto (tgt := 30) hx hb dX9_leadsTo_78 (by decide) ?_
            exact ih_x_3 (i_2 + 1) (M_9, L_10, a_11, z_7) (by omega) (by rw [← hs_x_3]; exact (lq_inl (by subst ea_11; subst eL_10; subst eM_9; subst ez_7; subst ea_6; subst eM_5; rw [hfx_3]; simp only [bd_X9_leadsTo_30, if_pos c_4])).symm) _ _ hP hD hS _ (lv_sub hl [2, 3, 4, 5, 1, 0] rfl)
          refine lv_icmp_ne (tgt := 64) hx hb dX9_leadsTo_56 (by decide) (fun c_12 => ?_) (fun c_12 => ?_)
          · skip
            refine lv_bipush (v := (-9)) hx hb dX9_leadsTo_64 (by decide +kernel) ?_
            exact J_8 (-9) (by first | (simp only [if_neg c_12]; done) | rfl) _ _ hP hD hS _ (lv_sub hl [0, 1, 2, 3, 5] rfl)
          · skip
            refine lv_iload hx hb dX9_leadsTo_59 (lv_at hl 5 rfl) ?_
            refine lv_goto (tgt := 66) hx hb dX9_leadsTo_61 (by decide) ?_
            exact J_8 (nI i_2) (by first | (simp only [if_pos c_12]; done) | rfl) _ _ hP hD hS _ (lv_sub hl [0, 1, 2, 3, 5] rfl)
    exact Lx_3 512 0 (M, L, a12, (-9)) (by omega) rfl _ _ hP hD hS _ (lv_sub hl [4, 5, 3, 2, 1, 0] rfl)
  · skip
    refine lv_bipush (v := (-2)) hx hb dX9_leadsTo_9 (by decide +kernel) ?_
    have hsp : sp_X9_leadsTo M L a5 a6 a12 wanted = ((-2), M, L, a12) := by simp only [sp_X9_leadsTo, if_pos c_1]
    exact hret _ _ _ _ _ (by rw [hsp]) rfl (by rw [hsp]; exact hP) hS dX9_leadsTo_11
