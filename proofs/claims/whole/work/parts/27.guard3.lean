def bd_X8_leadsTo_14 (S : Nat → Int32) (F : Nat → Int32) (P : Nat → Int32) (mode : Int32) (i_2 : Nat) (x_3 : (Nat → Int32)) : ((Nat → Int32)) ⊕ (Int32 × (Nat → Int32)) :=
  (let P_4 : Nat → Int32 := (sp_X2_copyFrom x_3 P); (let P_5 : Nat → Int32 := (sp_X2_advance P_4 S F (nI i_2)); (if (P_5 2) = mode then (Sum.inr ((nI i_2), P_5)) else (Sum.inl P_5))))
def sp_X8_leadsTo (G : Nat → Int32) (S : Nat → Int32) (F : Nat → Int32) (P : Nat → Int32) (Q1 : Nat → Int32) (mode : Int32) : Int32 × (Nat → Int32) :=
  (if (sp_X8_within mode 0 4) = 0 then
    ((-2), Q1)
  else
    sE (fun (x_3 : (Nat → Int32)) =>
      ((-9), x_3)) (lq (bd_X8_leadsTo_14 S F P mode) 512 0 Q1))
set_option maxRecDepth 100000 in
theorem sq_X8_leadsTo_1 (G : Nat → Int32) (S : Nat → Int32) (F : Nat → Int32) (P : Nat → Int32) (Q1 : Nat → Int32) (mode : Int32) (x_3 : (Nat → Int32)) (c_1 : ¬ ((sp_X8_within mode 0 4) = 0)) (hsx_x_3 : lq (bd_X8_leadsTo_14 S F P mode) 512 0 Q1 = Sum.inl x_3) : sp_X8_leadsTo G S F P Q1 mode = ((-9), x_3) := by simp only [sp_X8_leadsTo, if_neg c_1, hsx_x_3, sE_inl]
set_option maxRecDepth 100000 in
theorem sq_X8_leadsTo_2 (G : Nat → Int32) (S : Nat → Int32) (F : Nat → Int32) (P : Nat → Int32) (Q1 : Nat → Int32) (mode : Int32) (res : Int32 × (Nat → Int32)) (c_1 : ¬ ((sp_X8_within mode 0 4) = 0)) (hsr : lq (bd_X8_leadsTo_14 S F P mode) 512 0 Q1 = Sum.inr res) : sp_X8_leadsTo G S F P Q1 mode = res := by simp only [sp_X8_leadsTo, if_neg c_1, hsr, sE_inr]
set_option maxHeartbeats 4000000 in
set_option maxRecDepth 100000 in
theorem c_X8_leadsTo (l : Launch) (D : va_G) (cI cJ cO : ClassId) (h : Nat) (r : Nat → Nat) (G : Nat → Int32) (S : Nat → Int32) (F : Nat → Int32) (P : Nat → Int32) (Q1 : Nat → Int32) (mode : Int32)  : MI l D (TY cI cJ cO) yX8_leadsTo wsX8_leadsTo (RM 4) [.ref h, .int mode] [(h, oX8 r G), ((r 0), oX5 S), ((r 1), oX0 F), ((r 2), oX2 (r 0) (r 1) P), ((r 3), oX2 (r 0) (r 1) Q1)] ((sp_X8_leadsTo G S F P Q1 mode).1) [(h, oX8 r G), ((r 0), oX5 S), ((r 1), oX0 F), ((r 2), oX2 (r 0) (r 1) P), ((r 3), oX2 (r 0) (r 1) ((sp_X8_leadsTo G S F P Q1 mode).2))] := by
  refine k_entI (cc := cX8_leadsTo) (maxL := 3) (lv := [(0, .ref h), (1, .int mode)]) (by decide +kernel) rfl (Nat.le_of_ble_eq_true rfl) rfl ?_
  intro p e s m below meth c A Q ls hx hb hml hts hown hA hS hP hD hK hN hl hret
  have hown : s.vm.findClass RX8 = some m.cls := hown
  have hi2 : ∀ w ∈ wsX20, w ∈ wsX8_leadsTo := fun w h => List.mem_cons_of_mem _ (List.mem_append_left _ (List.mem_append_left _ (List.mem_append_right _ h)))
  have hi8 : ∀ w ∈ wsX80, w ∈ wsX8_leadsTo := fun w h => List.mem_cons_of_mem _ (List.mem_append_left _ (List.mem_append_left _ (List.mem_append_left _ (List.mem_append_right _ h))))
  have hf28 := hts (.fieldLink RX8 28 "PressGuard" "press" "LPressGuard$Press;") (by decide +kernel)
  have hf32 := hts (.fieldLink RX8 32 "PressGuard" "attempt" "LPressGuard$Press;") (by decide +kernel)
  have hf113 := hts (.fieldLink RX8 113 "PressGuard$Press" "mode" "I") (by decide +kernel)
  refine lv_iload_n hx hb dX8_leadsTo_0 rfl (lv_at hl 1 rfl) ?_
  refine lv_iconst (v := 0) hx hb dX8_leadsTo_1 (by decide +kernel) ?_
  refine lv_iconst (v := 4) hx hb dX8_leadsTo_2 (by decide +kernel) ?_
  refine k_Si ⟨hx, hb, hml, hown, hts⟩ (c_X8_within l D cI cJ cO mode 0 4) (va_cwS 3 hts gX8_leadsTo_X8_within rfl rfl rfl (by decide +kernel) ⟨Nat.le_of_ble_eq_true rfl, Nat.le_of_ble_eq_true rfl⟩) hK hN hP hD hS hA [] rfl rfl rfl (ws' := [(h, oX8 r G), ((r 0), oX5 S), ((r 1), oX0 F), ((r 2), oX2 (r 0) (r 1) P), ((r 3), oX2 (r 0) (r 1) Q1)]) rfl rfl hl.1 rfl (Nat.le_of_ble_eq_true rfl) dX8_leadsTo_3 ⟨Nat.le_refl _, Nat.le_refl _⟩ (fun H locs hP hD hS => ?_)
  refine lv_if_ne (tgt := 12) hx hb dX8_leadsTo_6 (by decide) (fun c_1 => ?_) (fun c_1 => ?_)
  · skip
    refine lv_iconst (v := 0) hx hb dX8_leadsTo_12 (by decide +kernel) ?_
    refine lv_istore_n (lv' := [(2, .int 0), (0, .ref h), (1, .int mode)]) hx hb dX8_leadsTo_13 rfl hl (by decide) rfl (fun ls hl => ?_)
    obtain ⟨fx_3, hfx_3⟩ : ∃ f : Nat → (Nat → Int32) → ((Nat → Int32)) ⊕ (Int32 × (Nat → Int32)), f = (bd_X8_leadsTo_14 S F P mode) := ⟨_, rfl⟩
    have hB_x_3 : (511 : Int32) = nI (512 - 1) := by decide +kernel
    have hN_x_3 : 512 < 2 ^ 31 := by decide
    have Lx_3 : ∀ (nn i_2 : Nat) (x_3 : (Nat → Int32)), i_2 + nn = 512 → lq fx_3 nn i_2 x_3 = lq fx_3 512 0 Q1 → ∀ (H : Heap) (locs : List Loc), va_P D vwCl [(h, oX8 r G), ((r 0), oX5 S), ((r 1), oX0 F), ((r 2), oX2 (r 0) (r 1) P), ((r 3), oX2 (r 0) (r 1) x_3)] H → va_D A [(h, oX8 r G), ((r 0), oX5 S), ((r 1), oX0 F), ((r 2), oX2 (r 0) (r 1) P), ((r 3), oX2 (r 0) (r 1) x_3)] → va_S A s.heap H locs → ∀ ls : Array Slot, lv_has ls 3 [(0, .ref h), (1, .int mode), (2, .int (nI i_2))] → W p l e (RM 4) s m ([.ref h, .int mode] : List Value).toArray below meth c H locs 0 0 Q (F0 m 14 ls []) := by
      intro nn_x_3
      induction nn_x_3 with
      | zero =>
        intro i_2 x_3 hi_i_2 hs_x_3 H locs hP hD hS ls hl
        refine lv_iload_n hx hb dX8_leadsTo_14 rfl (lv_at hl 2 rfl) ?_
        refine lv_sipush (v := 511) hx hb dX8_leadsTo_15 (by decide +kernel) ?_
        refine lv_icmp_gt (tgt := 59) hx hb dX8_leadsTo_18 (by decide) (fun _ => ?_) (fun q => absurd (show _ < _ by rw [hB_x_3]; exact nI_lt (by omega) (by omega)) q)
        have hsx_x_3 : lq (bd_X8_leadsTo_14 S F P mode) 512 0 Q1 = Sum.inl x_3 := by rw [← hfx_3, ← hs_x_3]; rfl
        refine lv_bipush (v := (-9)) hx hb dX8_leadsTo_59 (by decide +kernel) ?_
        have hsp : sp_X8_leadsTo G S F P Q1 mode = ((-9), x_3) := sq_X8_leadsTo_1 G S F P Q1 mode x_3 c_1 hsx_x_3
        exact hret _ _ _ _ _ (by rw [hsp]) rfl (by rw [hsp]; exact hP) hS dX8_leadsTo_61
      | succ nn_x_3 ih_x_3 =>
        intro i_2 x_3 hi_i_2 hs_x_3 H locs hP hD hS ls hl
        have hlt_i_2 : i_2 < 512 := by omega
        refine lv_iload_n hx hb dX8_leadsTo_14 rfl (lv_at hl 2 rfl) ?_
        refine lv_sipush (v := 511) hx hb dX8_leadsTo_15 (by decide +kernel) ?_
        refine lv_icmp_gt (tgt := 59) hx hb dX8_leadsTo_18 (by decide) (fun q => absurd q (by rw [hB_x_3]; exact nI_nlt (by omega) (by omega))) (fun _ => ?_)
        refine lv_aload_n hx hb dX8_leadsTo_21 rfl (lv_at hl 0 rfl) ?_
        refine k_get hx hb hts hi8 hown hK hP 0 rfl rfl 3 (by decide) hf32 (.ref (r 3)) rfl dX8_leadsTo_22 ?_
        refine lv_aload_n hx hb dX8_leadsTo_25 rfl (lv_at hl 0 rfl) ?_
        refine k_get hx hb hts hi8 hown hK hP 0 rfl rfl 2 (by decide) hf28 (.ref (r 2)) rfl dX8_leadsTo_26 ?_
        obtain ⟨P_4, eP_4⟩ : ∃ q : Nat → Int32, q = (sp_X2_copyFrom x_3 P) := ⟨_, rfl⟩
        refine k_Vv ⟨hx, hb, hml, hown, hts⟩ (c_X2_copyFrom l D cI cJ cO (r 3) (r 2) (r 0) (r 1) x_3 P) (ci := 2) (q0 := 4) rfl rfl (cwV 1 hts gX8_leadsTo_X2_copyFrom rfl rfl rfl (by decide +kernel) ⟨Nat.le_of_ble_eq_true rfl, Nat.le_of_ble_eq_true rfl⟩) hK hN hP hD hS hA [4, 3] rfl rfl rfl (ws' := [(h, oX8 r G), ((r 0), oX5 S), ((r 1), oX0 F), ((r 2), oX2 (r 0) (r 1) P), ((r 3), oX2 (r 0) (r 1) P_4)]) (by rw [eP_4]; rfl) rfl hl.1 rfl (Nat.le_of_ble_eq_true rfl) dX8_leadsTo_29 ⟨Nat.le_refl _, Nat.le_refl _⟩ (fun H locs hP hD hS => ?_)
        refine lv_aload_n hx hb dX8_leadsTo_32 rfl (lv_at hl 0 rfl) ?_
        refine k_get hx hb hts hi8 hown hK hP 0 rfl rfl 3 (by decide) hf32 (.ref (r 3)) rfl dX8_leadsTo_33 ?_
        refine lv_iload_n hx hb dX8_leadsTo_36 rfl (lv_at hl 2 rfl) ?_
        obtain ⟨P_5, eP_5⟩ : ∃ q : Nat → Int32, q = (sp_X2_advance P_4 S F (nI i_2)) := ⟨_, rfl⟩
        refine k_Vv ⟨hx, hb, hml, hown, hts⟩ (c_X2_advance l D cI cJ cO (r 3) (r 0) (r 1) P_4 S F (nI i_2)) (ci := 2) (q0 := 4) rfl rfl (cwV 1 hts gX8_leadsTo_X2_advance rfl rfl rfl (by decide +kernel) ⟨Nat.le_of_ble_eq_true rfl, Nat.le_of_ble_eq_true rfl⟩) hK hN hP hD hS hA [4, 1, 2] rfl rfl rfl (ws' := [(h, oX8 r G), ((r 0), oX5 S), ((r 1), oX0 F), ((r 2), oX2 (r 0) (r 1) P), ((r 3), oX2 (r 0) (r 1) P_5)]) (by rw [eP_5]; rfl) rfl hl.1 rfl (Nat.le_of_ble_eq_true rfl) dX8_leadsTo_37 ⟨Nat.le_refl _, Nat.le_refl _⟩ (fun H locs hP hD hS => ?_)
        refine lv_aload_n hx hb dX8_leadsTo_40 rfl (lv_at hl 0 rfl) ?_
        refine k_get hx hb hts hi8 hown hK hP 0 rfl rfl 3 (by decide) hf32 (.ref (r 3)) rfl dX8_leadsTo_41 ?_
        refine k_get hx hb hts hi2 hown hK hP 4 rfl rfl 2 (by decide) hf113 (.int (P_5 2)) rfl dX8_leadsTo_44 ?_
        refine lv_iload_n hx hb dX8_leadsTo_47 rfl (lv_at hl 1 rfl) ?_
        refine lv_icmp_ne (tgt := 53) hx hb dX8_leadsTo_48 (by decide) (fun c_6 => ?_) (fun c_6 => ?_)
        · skip
          refine lv_iinc (v := (nI (i_2 + 1))) (lv' := [(2, .int (nI (i_2 + 1))), (0, .ref h), (1, .int mode)]) hx hb dX8_leadsTo_53 hl (k := 2) rfl (nI_1 i_2) (by decide) rfl (fun ls hl => ?_)
          refine lv_goto (tgt := 14) hx hb dX8_leadsTo_56 (by decide) ?_
          exact ih_x_3 (i_2 + 1) P_5 (by omega) (by rw [← hs_x_3]; exact (lq_inl (by subst eP_5; subst eP_4; rw [hfx_3]; simp only [bd_X8_leadsTo_14, if_neg c_6])).symm) _ _ hP hD hS _ (lv_sub hl [1, 2, 0] rfl)
        · skip
          refine lv_iload_n hx hb dX8_leadsTo_51 rfl (lv_at hl 2 rfl) ?_
          have hsr : lq (bd_X8_leadsTo_14 S F P mode) 512 0 Q1 = Sum.inr ((nI i_2), P_5) := by rw [← hfx_3, ← hs_x_3]; exact lq_inr (by subst eP_5; subst eP_4; rw [hfx_3]; simp only [bd_X8_leadsTo_14, if_pos c_6])
          have hsp : sp_X8_leadsTo G S F P Q1 mode = ((nI i_2), P_5) := sq_X8_leadsTo_2 G S F P Q1 mode ((nI i_2), P_5) c_1 hsr
          exact hret _ _ _ _ _ (by rw [hsp]) rfl (by rw [hsp]; exact hP) hS dX8_leadsTo_52
    exact Lx_3 512 0 Q1 (by omega) rfl _ _ hP hD hS _ (lv_sub hl [1, 2, 0] rfl)
  · skip
    refine lv_bipush (v := (-2)) hx hb dX8_leadsTo_9 (by decide +kernel) ?_
    have hsp : sp_X8_leadsTo G S F P Q1 mode = ((-2), Q1) := by simp only [sp_X8_leadsTo, if_pos c_1]
    exact hret _ _ _ _ _ (by rw [hsp]) rfl (by rw [hsp]; exact hP) hS dX8_leadsTo_11

def sp_X8_locked (G : Nat → Int32) (N : Nat → Int32) (n0 : Nat → Int32) (n1 : Nat → Int32) (n2 : Nat → Int32) (cause : Int32) (position : Int32) : Int32 :=
  (if (sp_X8_within cause 1 5) = 0 then
    (-1)
  else
    (if position = (-9) then
      (sp_X1_locksBy N n0 n1 n2 cause)
    else
      (if (sp_X8_within position 0 17) = 0 then
        (-2)
      else
        (sp_X1_locksAt N n0 n1 n2 cause position))))
set_option maxHeartbeats 4000000 in
set_option maxRecDepth 100000 in
theorem c_X8_locked (l : Launch) (D : va_G) (cI cJ cO : ClassId) (h : Nat) (r : Nat → Nat) (na : Nat) (nb : Nat) (nc : Nat) (G : Nat → Int32) (N : Nat → Int32) (n0 : Nat → Int32) (n1 : Nat → Int32) (n2 : Nat → Int32) (cause : Int32) (position : Int32)  : MI l D (TY cI cJ cO) yX8_locked wsX8_locked (RM 3) [.ref h, .int cause, .int position] [(h, oX8 r G), ((r 4), oX1 na nb nc N), (na, .inl (cI, 90, .inl n0)), (nb, .inl (cI, 5, .inl n1)), (nc, .inl (cI, 5, .inl n2))] (sp_X8_locked G N n0 n1 n2 cause position) [(h, oX8 r G), ((r 4), oX1 na nb nc N), (na, .inl (cI, 90, .inl n0)), (nb, .inl (cI, 5, .inl n1)), (nc, .inl (cI, 5, .inl n2))] := by
  refine k_entI (cc := cX8_locked) (maxL := 3) (lv := [(0, .ref h), (1, .int cause), (2, .int position)]) (by decide +kernel) rfl (Nat.le_of_ble_eq_true rfl) rfl ?_
  intro p e s m below meth c A Q ls hx hb hml hts hown hA hS hP hD hK hN hl hret
  have hown : s.vm.findClass RX8 = some m.cls := hown
  have hi8 : ∀ w ∈ wsX80, w ∈ wsX8_locked := fun w h => List.mem_cons_of_mem _ (List.mem_append_left _ (List.mem_append_right _ h))
  have hf38 := hts (.fieldLink RX8 38 "PressGuard" "notes" "LPressGuard$Notes;") (by decide +kernel)
  refine lv_iload_n hx hb dX8_locked_0 rfl (lv_at hl 1 rfl) ?_
  refine lv_iconst (v := 1) hx hb dX8_locked_1 (by decide +kernel) ?_
  refine lv_iconst (v := 5) hx hb dX8_locked_2 (by decide +kernel) ?_
  refine k_Si ⟨hx, hb, hml, hown, hts⟩ (c_X8_within l D cI cJ cO cause 1 5) (va_cwS 3 hts gX8_locked_X8_within rfl rfl rfl (by decide +kernel) ⟨Nat.le_of_ble_eq_true rfl, Nat.le_of_ble_eq_true rfl⟩) hK hN hP hD hS hA [] rfl rfl rfl (ws' := [(h, oX8 r G), ((r 4), oX1 na nb nc N), (na, .inl (cI, 90, .inl n0)), (nb, .inl (cI, 5, .inl n1)), (nc, .inl (cI, 5, .inl n2))]) rfl rfl hl.1 rfl (Nat.le_of_ble_eq_true rfl) dX8_locked_3 ⟨Nat.le_refl _, Nat.le_refl _⟩ (fun H locs hP hD hS => ?_)
  refine lv_if_ne (tgt := 11) hx hb dX8_locked_6 (by decide) (fun c_1 => ?_) (fun c_1 => ?_)
  · skip
    refine lv_iload_n hx hb dX8_locked_11 rfl (lv_at hl 2 rfl) ?_
    refine lv_bipush (v := (-9)) hx hb dX8_locked_12 (by decide +kernel) ?_
    refine lv_icmp_ne (tgt := 26) hx hb dX8_locked_14 (by decide) (fun c_2 => ?_) (fun c_2 => ?_)
    · skip
      refine lv_iload_n hx hb dX8_locked_26 rfl (lv_at hl 2 rfl) ?_
      refine lv_iconst (v := 0) hx hb dX8_locked_27 (by decide +kernel) ?_
      refine lv_bipush (v := 17) hx hb dX8_locked_28 (by decide +kernel) ?_
      refine k_Si ⟨hx, hb, hml, hown, hts⟩ (c_X8_within l D cI cJ cO position 0 17) (va_cwS 3 hts gX8_locked_X8_within rfl rfl rfl (by decide +kernel) ⟨Nat.le_of_ble_eq_true rfl, Nat.le_of_ble_eq_true rfl⟩) hK hN hP hD hS hA [] rfl rfl rfl (ws' := [(h, oX8 r G), ((r 4), oX1 na nb nc N), (na, .inl (cI, 90, .inl n0)), (nb, .inl (cI, 5, .inl n1)), (nc, .inl (cI, 5, .inl n2))]) rfl rfl hl.1 rfl (Nat.le_of_ble_eq_true rfl) dX8_locked_30 ⟨Nat.le_refl _, Nat.le_refl _⟩ (fun H locs hP hD hS => ?_)
      refine lv_if_ne (tgt := 39) hx hb dX8_locked_33 (by decide) (fun c_3 => ?_) (fun c_3 => ?_)
      · skip
        refine lv_aload_n hx hb dX8_locked_39 rfl (lv_at hl 0 rfl) ?_
        refine k_get hx hb hts hi8 hown hK hP 0 rfl rfl 4 (by decide) hf38 (.ref (r 4)) rfl dX8_locked_40 ?_
        refine lv_iload_n hx hb dX8_locked_43 rfl (lv_at hl 1 rfl) ?_
        refine lv_iload_n hx hb dX8_locked_44 rfl (lv_at hl 2 rfl) ?_
        refine k_Vi ⟨hx, hb, hml, hown, hts⟩ (c_X1_locksAt l D cI cJ cO (r 4) na nb nc N n0 n1 n2 cause position) (ci := 1) (q0 := 1) rfl rfl (cwV 2 hts gX8_locked_X1_locksAt rfl rfl rfl (by decide +kernel) ⟨Nat.le_of_ble_eq_true rfl, Nat.le_of_ble_eq_true rfl⟩) hK hN hP hD hS hA [1, 2, 3, 4] rfl rfl rfl (ws' := [(h, oX8 r G), ((r 4), oX1 na nb nc N), (na, .inl (cI, 90, .inl n0)), (nb, .inl (cI, 5, .inl n1)), (nc, .inl (cI, 5, .inl n2))]) rfl rfl hl.1 rfl (Nat.le_of_ble_eq_true rfl) dX8_locked_45 ⟨Nat.le_refl _, Nat.le_refl _⟩ (fun H locs hP hD hS => ?_)
        have hsp : sp_X8_locked G N n0 n1 n2 cause position = (sp_X1_locksAt N n0 n1 n2 cause position) := by simp only [sp_X8_locked, if_neg c_1, if_neg c_2, if_neg c_3]
        exact hret _ _ _ _ _ (by rw [hsp]) rfl hP hS dX8_locked_48
      · skip
        refine lv_bipush (v := (-2)) hx hb dX8_locked_36 (by decide +kernel) ?_
        have hsp : sp_X8_locked G N n0 n1 n2 cause position = (-2) := by simp only [sp_X8_locked, if_neg c_1, if_neg c_2, if_pos c_3]
        exact hret _ _ _ _ _ (by rw [hsp]) rfl hP hS dX8_locked_38
    · skip
      refine lv_aload_n hx hb dX8_locked_17 rfl (lv_at hl 0 rfl) ?_
      refine k_get hx hb hts hi8 hown hK hP 0 rfl rfl 4 (by decide) hf38 (.ref (r 4)) rfl dX8_locked_18 ?_
      refine lv_iload_n hx hb dX8_locked_21 rfl (lv_at hl 1 rfl) ?_
      refine k_Vi ⟨hx, hb, hml, hown, hts⟩ (c_X1_locksBy l D cI cJ cO (r 4) na nb nc N n0 n1 n2 cause) (ci := 1) (q0 := 1) rfl rfl (cwV 1 hts gX8_locked_X1_locksBy rfl rfl rfl (by decide +kernel) ⟨Nat.le_of_ble_eq_true rfl, Nat.le_of_ble_eq_true rfl⟩) hK hN hP hD hS hA [1, 2, 3, 4] rfl rfl rfl (ws' := [(h, oX8 r G), ((r 4), oX1 na nb nc N), (na, .inl (cI, 90, .inl n0)), (nb, .inl (cI, 5, .inl n1)), (nc, .inl (cI, 5, .inl n2))]) rfl rfl hl.1 rfl (Nat.le_of_ble_eq_true rfl) dX8_locked_22 ⟨Nat.le_refl _, Nat.le_refl _⟩ (fun H locs hP hD hS => ?_)
      have hsp : sp_X8_locked G N n0 n1 n2 cause position = (sp_X1_locksBy N n0 n1 n2 cause) := by simp only [sp_X8_locked, if_neg c_1, if_pos c_2]
      exact hret _ _ _ _ _ (by rw [hsp]) rfl hP hS dX8_locked_25
  · skip
    refine lv_iconst (v := (-1)) hx hb dX8_locked_9 (by decide +kernel) ?_
    have hsp : sp_X8_locked G N n0 n1 n2 cause position = (-1) := by simp only [sp_X8_locked, if_pos c_1]
    exact hret _ _ _ _ _ (by rw [hsp]) rfl hP hS dX8_locked_10

def sp_X8_cause (G : Nat → Int32) (N : Nat → Int32) (n0 : Nat → Int32) (n1 : Nat → Int32) (n2 : Nat → Int32) (k0 : Int32) : Int32 :=
  (if (sp_X8_within k0 0 4) = 0 then
    (-2)
  else
    (sp_X1_causeInOrder N n0 n1 n2 k0))
set_option maxHeartbeats 4000000 in
set_option maxRecDepth 100000 in
theorem c_X8_cause (l : Launch) (D : va_G) (cI cJ cO : ClassId) (h : Nat) (r : Nat → Nat) (na : Nat) (nb : Nat) (nc : Nat) (G : Nat → Int32) (N : Nat → Int32) (n0 : Nat → Int32) (n1 : Nat → Int32) (n2 : Nat → Int32) (k0 : Int32)  : MI l D (TY cI cJ cO) yX8_cause wsX8_cause (RM 1) [.ref h, .int k0] [(h, oX8 r G), ((r 4), oX1 na nb nc N), (na, .inl (cI, 90, .inl n0)), (nb, .inl (cI, 5, .inl n1)), (nc, .inl (cI, 5, .inl n2))] (sp_X8_cause G N n0 n1 n2 k0) [(h, oX8 r G), ((r 4), oX1 na nb nc N), (na, .inl (cI, 90, .inl n0)), (nb, .inl (cI, 5, .inl n1)), (nc, .inl (cI, 5, .inl n2))] := by
  refine k_entI (cc := cX8_cause) (maxL := 2) (lv := [(0, .ref h), (1, .int k0)]) (by decide +kernel) rfl (Nat.le_of_ble_eq_true rfl) rfl ?_
  intro p e s m below meth c A Q ls hx hb hml hts hown hA hS hP hD hK hN hl hret
  have hown : s.vm.findClass RX8 = some m.cls := hown
  have hi8 : ∀ w ∈ wsX80, w ∈ wsX8_cause := fun w h => List.mem_cons_of_mem _ (List.mem_append_left _ (List.mem_append_right _ h))
  have hf38 := hts (.fieldLink RX8 38 "PressGuard" "notes" "LPressGuard$Notes;") (by decide +kernel)
  refine lv_iload_n hx hb dX8_cause_0 rfl (lv_at hl 1 rfl) ?_
  refine lv_iconst (v := 0) hx hb dX8_cause_1 (by decide +kernel) ?_
  refine lv_iconst (v := 4) hx hb dX8_cause_2 (by decide +kernel) ?_
  refine k_Si ⟨hx, hb, hml, hown, hts⟩ (c_X8_within l D cI cJ cO k0 0 4) (va_cwS 3 hts gX8_cause_X8_within rfl rfl rfl (by decide +kernel) ⟨Nat.le_of_ble_eq_true rfl, Nat.le_of_ble_eq_true rfl⟩) hK hN hP hD hS hA [] rfl rfl rfl (ws' := [(h, oX8 r G), ((r 4), oX1 na nb nc N), (na, .inl (cI, 90, .inl n0)), (nb, .inl (cI, 5, .inl n1)), (nc, .inl (cI, 5, .inl n2))]) rfl rfl hl.1 rfl (Nat.le_of_ble_eq_true rfl) dX8_cause_3 ⟨Nat.le_refl _, Nat.le_refl _⟩ (fun H locs hP hD hS => ?_)
  refine lv_if_ne (tgt := 12) hx hb dX8_cause_6 (by decide) (fun c_1 => ?_) (fun c_1 => ?_)
  · skip
    refine lv_aload_n hx hb dX8_cause_12 rfl (lv_at hl 0 rfl) ?_
    refine k_get hx hb hts hi8 hown hK hP 0 rfl rfl 4 (by decide) hf38 (.ref (r 4)) rfl dX8_cause_13 ?_
    refine lv_iload_n hx hb dX8_cause_16 rfl (lv_at hl 1 rfl) ?_
    refine k_Vi ⟨hx, hb, hml, hown, hts⟩ (c_X1_causeInOrder l D cI cJ cO (r 4) na nb nc N n0 n1 n2 k0) (ci := 1) (q0 := 1) rfl rfl (cwV 1 hts gX8_cause_X1_causeInOrder rfl rfl rfl (by decide +kernel) ⟨Nat.le_of_ble_eq_true rfl, Nat.le_of_ble_eq_true rfl⟩) hK hN hP hD hS hA [1, 2, 3, 4] rfl rfl rfl (ws' := [(h, oX8 r G), ((r 4), oX1 na nb nc N), (na, .inl (cI, 90, .inl n0)), (nb, .inl (cI, 5, .inl n1)), (nc, .inl (cI, 5, .inl n2))]) rfl rfl hl.1 rfl (Nat.le_of_ble_eq_true rfl) dX8_cause_17 ⟨Nat.le_refl _, Nat.le_refl _⟩ (fun H locs hP hD hS => ?_)
    have hsp : sp_X8_cause G N n0 n1 n2 k0 = (sp_X1_causeInOrder N n0 n1 n2 k0) := by simp only [sp_X8_cause, if_neg c_1]
    exact hret _ _ _ _ _ (by rw [hsp]) rfl hP hS dX8_cause_20
  · skip
    refine lv_bipush (v := (-2)) hx hb dX8_cause_9 (by decide +kernel) ?_
    have hsp : sp_X8_cause G N n0 n1 n2 k0 = (-2) := by simp only [sp_X8_cause, if_pos c_1]
    exact hret _ _ _ _ _ (by rw [hsp]) rfl hP hS dX8_cause_11

def sp_X8_followed (G : Nat → Int32) (N : Nat → Int32) (n0 : Nat → Int32) (n1 : Nat → Int32) (n2 : Nat → Int32) (mode : Int32) : Int32 :=
  (if (sp_X8_within mode 0 4) = 0 then
    (-2)
  else
    (sp_X1_modesBehind N n0 n1 n2 mode))
set_option maxHeartbeats 4000000 in
set_option maxRecDepth 100000 in
theorem c_X8_followed (l : Launch) (D : va_G) (cI cJ cO : ClassId) (h : Nat) (r : Nat → Nat) (na : Nat) (nb : Nat) (nc : Nat) (G : Nat → Int32) (N : Nat → Int32) (n0 : Nat → Int32) (n1 : Nat → Int32) (n2 : Nat → Int32) (mode : Int32)  : MI l D (TY cI cJ cO) yX8_followed wsX8_followed (RM 2) [.ref h, .int mode] [(h, oX8 r G), ((r 4), oX1 na nb nc N), (na, .inl (cI, 90, .inl n0)), (nb, .inl (cI, 5, .inl n1)), (nc, .inl (cI, 5, .inl n2))] (sp_X8_followed G N n0 n1 n2 mode) [(h, oX8 r G), ((r 4), oX1 na nb nc N), (na, .inl (cI, 90, .inl n0)), (nb, .inl (cI, 5, .inl n1)), (nc, .inl (cI, 5, .inl n2))] := by
  refine k_entI (cc := cX8_followed) (maxL := 2) (lv := [(0, .ref h), (1, .int mode)]) (by decide +kernel) rfl (Nat.le_of_ble_eq_true rfl) rfl ?_
  intro p e s m below meth c A Q ls hx hb hml hts hown hA hS hP hD hK hN hl hret
  have hown : s.vm.findClass RX8 = some m.cls := hown
  have hi8 : ∀ w ∈ wsX80, w ∈ wsX8_followed := fun w h => List.mem_cons_of_mem _ (List.mem_append_left _ (List.mem_append_right _ h))
  have hf38 := hts (.fieldLink RX8 38 "PressGuard" "notes" "LPressGuard$Notes;") (by decide +kernel)
  refine lv_iload_n hx hb dX8_followed_0 rfl (lv_at hl 1 rfl) ?_
  refine lv_iconst (v := 0) hx hb dX8_followed_1 (by decide +kernel) ?_
  refine lv_iconst (v := 4) hx hb dX8_followed_2 (by decide +kernel) ?_
  refine k_Si ⟨hx, hb, hml, hown, hts⟩ (c_X8_within l D cI cJ cO mode 0 4) (va_cwS 3 hts gX8_followed_X8_within rfl rfl rfl (by decide +kernel) ⟨Nat.le_of_ble_eq_true rfl, Nat.le_of_ble_eq_true rfl⟩) hK hN hP hD hS hA [] rfl rfl rfl (ws' := [(h, oX8 r G), ((r 4), oX1 na nb nc N), (na, .inl (cI, 90, .inl n0)), (nb, .inl (cI, 5, .inl n1)), (nc, .inl (cI, 5, .inl n2))]) rfl rfl hl.1 rfl (Nat.le_of_ble_eq_true rfl) dX8_followed_3 ⟨Nat.le_refl _, Nat.le_refl _⟩ (fun H locs hP hD hS => ?_)
  refine lv_if_ne (tgt := 12) hx hb dX8_followed_6 (by decide) (fun c_1 => ?_) (fun c_1 => ?_)
  · skip
    refine lv_aload_n hx hb dX8_followed_12 rfl (lv_at hl 0 rfl) ?_
    refine k_get hx hb hts hi8 hown hK hP 0 rfl rfl 4 (by decide) hf38 (.ref (r 4)) rfl dX8_followed_13 ?_
    refine lv_iload_n hx hb dX8_followed_16 rfl (lv_at hl 1 rfl) ?_
    refine k_Vi ⟨hx, hb, hml, hown, hts⟩ (c_X1_modesBehind l D cI cJ cO (r 4) na nb nc N n0 n1 n2 mode) (ci := 1) (q0 := 1) rfl rfl (cwV 1 hts gX8_followed_X1_modesBehind rfl rfl rfl (by decide +kernel) ⟨Nat.le_of_ble_eq_true rfl, Nat.le_of_ble_eq_true rfl⟩) hK hN hP hD hS hA [1, 2, 3, 4] rfl rfl rfl (ws' := [(h, oX8 r G), ((r 4), oX1 na nb nc N), (na, .inl (cI, 90, .inl n0)), (nb, .inl (cI, 5, .inl n1)), (nc, .inl (cI, 5, .inl n2))]) rfl rfl hl.1 rfl (Nat.le_of_ble_eq_true rfl) dX8_followed_17 ⟨Nat.le_refl _, Nat.le_refl _⟩ (fun H locs hP hD hS => ?_)
    have hsp : sp_X8_followed G N n0 n1 n2 mode = (sp_X1_modesBehind N n0 n1 n2 mode) := by simp only [sp_X8_followed, if_neg c_1]
    exact hret _ _ _ _ _ (by rw [hsp]) rfl hP hS dX8_followed_20
  · skip
    refine lv_bipush (v := (-2)) hx hb dX8_followed_9 (by decide +kernel) ?_
    have hsp : sp_X8_followed G N n0 n1 n2 mode = (-2) := by simp only [sp_X8_followed, if_pos c_1]
    exact hret _ _ _ _ _ (by rw [hsp]) rfl hP hS dX8_followed_11

def sp_X8_places (G : Nat → Int32) (N : Nat → Int32) : Int32 :=
  (sp_J6_bitCount_0f7a4 (N 4))
set_option maxHeartbeats 4000000 in
set_option maxRecDepth 100000 in
theorem c_X8_places (l : Launch) (D : va_G) (cI cJ cO : ClassId) (h : Nat) (r : Nat → Nat) (na : Nat) (nb : Nat) (nc : Nat) (G : Nat → Int32) (N : Nat → Int32)  : MI l D (TY cI cJ cO) yX8_places wsX8_places (RM 1) [.ref h] [(h, oX8 r G), ((r 4), oX1 na nb nc N)] (sp_X8_places G N) [(h, oX8 r G), ((r 4), oX1 na nb nc N)] := by
  refine k_entI (cc := cX8_places) (maxL := 1) (lv := [(0, .ref h)]) (by decide +kernel) rfl (Nat.le_of_ble_eq_true rfl) rfl ?_
  intro p e s m below meth c A Q ls hx hb hml hts hown hA hS hP hD hK hN hl hret
  have hown : s.vm.findClass RX8 = some m.cls := hown
  have hi1 : ∀ w ∈ wsX10, w ∈ wsX8_places := fun w h => List.mem_cons_of_mem _ (List.mem_append_right _ h)
  have hi8 : ∀ w ∈ wsX80, w ∈ wsX8_places := fun w h => List.mem_cons_of_mem _ (List.mem_append_left _ (List.mem_append_right _ h))
  have hf38 := hts (.fieldLink RX8 38 "PressGuard" "notes" "LPressGuard$Notes;") (by decide +kernel)
  have hf141 := hts (.fieldLink RX8 141 "PressGuard$Notes" "lockPlaces" "I") (by decide +kernel)
  refine lv_aload_n hx hb dX8_places_0 rfl (lv_at hl 0 rfl) ?_
  refine k_get hx hb hts hi8 hown hK hP 0 rfl rfl 4 (by decide) hf38 (.ref (r 4)) rfl dX8_places_1 ?_
  refine k_get hx hb hts hi1 hown hK hP 1 rfl rfl 4 (by decide) hf141 (.int (N 4)) rfl dX8_places_4 ?_
  refine k_Si ⟨hx, hb, hml, hown, hts⟩ (c_J6_bitCount_0f7a4 l D cI cJ cO (N 4)) (va_cwS 1 hts gX8_places_J6_bitCount_0f7a4 rfl rfl rfl (by decide +kernel) ⟨Nat.le_of_ble_eq_true rfl, Nat.le_of_ble_eq_true rfl⟩) hK hN hP hD hS hA [] rfl rfl rfl (ws' := [(h, oX8 r G), ((r 4), oX1 na nb nc N)]) rfl rfl hl.1 rfl (Nat.le_of_ble_eq_true rfl) dX8_places_7 ⟨Nat.le_refl _, Nat.le_refl _⟩ (fun H locs hP hD hS => ?_)
  have hsp : sp_X8_places G N = (sp_J6_bitCount_0f7a4 (N 4)) := rfl
  exact hret _ _ _ _ _ (by rw [hsp]) rfl hP hS dX8_places_10

def sp_X8_step (G : Nat → Int32) (K : Nat → Int32) (k : Nat → Int32) (set : Int32) : Int32 × (Nat → Int32) × (Nat → Int32) × (Nat → Int32) :=
  (if (sp_X8_isSet set) = 0 then
    ((-2), G, K, k)
  else
    (if (K 1) < 32 then
      let K_3 : Nat → Int32 := ((sp_X3_append K k set).1)
      let k_4 : Nat → Int32 := ((sp_X3_append K k set).2)
      ((K_3 1), (upd G 9 0), K_3, k_4)
    else
      ((-4), G, K, k)))
set_option maxRecDepth 100000 in
theorem sq_X8_step_1 (G : Nat → Int32) (K : Nat → Int32) (k : Nat → Int32) (set : Int32) (K_3 : Nat → Int32) (k_4 : Nat → Int32) (eK_3 : K_3 = ((sp_X3_append K k set).1)) (ek_4 : k_4 = ((sp_X3_append K k set).2)) (c_1 : ¬ ((sp_X8_isSet set) = 0)) (c_2 : (K 1) < 32) : sp_X8_step G K k set = ((K_3 1), (upd G 9 0), K_3, k_4) := by subst ek_4; subst eK_3; simp only [sp_X8_step, if_neg c_1, if_pos c_2]
set_option maxHeartbeats 4000000 in
set_option maxRecDepth 100000 in
theorem c_X8_step (l : Launch) (D : va_G) (cI cJ cO : ClassId) (h : Nat) (r : Nat → Nat) (sa : Nat) (G : Nat → Int32) (K : Nat → Int32) (k : Nat → Int32) (set : Int32)  : MI l D (TY cI cJ cO) yX8_step wsX8_step (RM 2) [.ref h, .int set] [(h, oX8 r G), ((r 5), oX3 sa K), (sa, .inl (cI, 32, .inl k))] ((sp_X8_step G K k set).1) [(h, oX8 r ((sp_X8_step G K k set).2.1)), ((r 5), oX3 sa ((sp_X8_step G K k set).2.2.1)), (sa, .inl (cI, 32, .inl ((sp_X8_step G K k set).2.2.2)))] := by
  refine k_entI (cc := cX8_step) (maxL := 2) (lv := [(0, .ref h), (1, .int set)]) (by decide +kernel) rfl (Nat.le_of_ble_eq_true rfl) rfl ?_
  intro p e s m below meth c A Q ls hx hb hml hts hown hA hS hP hD hK hN hl hret
  have hown : s.vm.findClass RX8 = some m.cls := hown
  have hi3 : ∀ w ∈ wsX30, w ∈ wsX8_step := fun w h => List.mem_cons_of_mem _ (List.mem_append_right _ h)
  have hi8 : ∀ w ∈ wsX80, w ∈ wsX8_step := fun w h => List.mem_cons_of_mem _ (List.mem_append_left _ (List.mem_append_right _ h))
  have hf45 := hts (.fieldLink RX8 45 "PressGuard" "script" "LPressGuard$Script;") (by decide +kernel)
  have hf72 := hts (.fieldLink RX8 72 "PressGuard" "sumsHold" "Z") (by decide +kernel)
  have hf149 := hts (.fieldLink RX8 149 "PressGuard$Script" "count" "I") (by decide +kernel)
  refine lv_iload_n hx hb dX8_step_0 rfl (lv_at hl 1 rfl) ?_
  refine k_Si ⟨hx, hb, hml, hown, hts⟩ (c_X8_isSet l D cI cJ cO set) (va_cwS 1 hts gX8_step_X8_isSet rfl rfl rfl (by decide +kernel) ⟨Nat.le_of_ble_eq_true rfl, Nat.le_of_ble_eq_true rfl⟩) hK hN hP hD hS hA [] rfl rfl rfl (ws' := [(h, oX8 r G), ((r 5), oX3 sa K), (sa, .inl (cI, 32, .inl k))]) rfl rfl hl.1 rfl (Nat.le_of_ble_eq_true rfl) dX8_step_1 ⟨Nat.le_refl _, Nat.le_refl _⟩ (fun H locs hP hD hS => ?_)
  refine lv_if_ne (tgt := 10) hx hb dX8_step_4 (by decide) (fun c_1 => ?_) (fun c_1 => ?_)
  · skip
    refine lv_aload_n hx hb dX8_step_10 rfl (lv_at hl 0 rfl) ?_
    refine k_get hx hb hts hi8 hown hK hP 0 rfl rfl 5 (by decide) hf45 (.ref (r 5)) rfl dX8_step_11 ?_
    refine k_get hx hb hts hi3 hown hK hP 1 rfl rfl 1 (by decide) hf149 (.int (K 1)) rfl dX8_step_14 ?_
    refine lv_bipush (v := 32) hx hb dX8_step_17 (by decide +kernel) ?_
    refine lv_icmp_lt (tgt := 25) hx hb dX8_step_19 (by decide) (fun c_2 => ?_) (fun c_2 => ?_)
    · skip
      refine lv_aload_n hx hb dX8_step_25 rfl (lv_at hl 0 rfl) ?_
      refine k_get hx hb hts hi8 hown hK hP 0 rfl rfl 5 (by decide) hf45 (.ref (r 5)) rfl dX8_step_26 ?_
      refine lv_iload_n hx hb dX8_step_29 rfl (lv_at hl 1 rfl) ?_
      obtain ⟨K_3, eK_3⟩ : ∃ q : Nat → Int32, q = ((sp_X3_append K k set).1) := ⟨_, rfl⟩
      obtain ⟨k_4, ek_4⟩ : ∃ q : Nat → Int32, q = ((sp_X3_append K k set).2) := ⟨_, rfl⟩
      refine k_Vv ⟨hx, hb, hml, hown, hts⟩ (c_X3_append l D cI cJ cO (r 5) sa K k set) (ci := 3) (q0 := 1) rfl rfl (cwV 1 hts gX8_step_X3_append rfl rfl rfl (by decide +kernel) ⟨Nat.le_of_ble_eq_true rfl, Nat.le_of_ble_eq_true rfl⟩) hK hN hP hD hS hA [1, 2] rfl rfl rfl (ws' := [(h, oX8 r G), ((r 5), oX3 sa K_3), (sa, .inl (cI, 32, .inl k_4))]) (by rw [eK_3, ek_4]; rfl) rfl hl.1 rfl (Nat.le_of_ble_eq_true rfl) dX8_step_30 ⟨Nat.le_refl _, Nat.le_refl _⟩ (fun H locs hP hD hS => ?_)
      refine lv_aload_n hx hb dX8_step_33 rfl (lv_at hl 0 rfl) ?_
      refine lv_iconst (v := 0) hx hb dX8_step_34 (by decide +kernel) ?_
      refine k_put hx hb hts hi8 tyX8_ok nmX8 hown hK hP hD hS 0 rfl rfl 9 (by decide) hf72 rfl (.int 0) rfl rfl (Nat.le_of_ble_eq_true rfl) (ws' := [(h, oX8 r (upd G 9 0)), ((r 5), oX3 sa K_3), (sa, .inl (cI, 32, .inl k_4))]) rfl dX8_step_35 (fun H locs hP hD hS => ?_)
      refine lv_aload_n hx hb dX8_step_38 rfl (lv_at hl 0 rfl) ?_
      refine k_get hx hb hts hi8 hown hK hP 0 rfl rfl 5 (by decide) hf45 (.ref (r 5)) rfl dX8_step_39 ?_
      refine k_get hx hb hts hi3 hown hK hP 1 rfl rfl 1 (by decide) hf149 (.int (K_3 1)) rfl dX8_step_42 ?_
      have hsp : sp_X8_step G K k set = ((K_3 1), (upd G 9 0), K_3, k_4) := sq_X8_step_1 G K k set K_3 k_4 eK_3 ek_4 c_1 c_2
      exact hret _ _ _ _ _ (by rw [hsp]) rfl (by rw [hsp]; exact hP) hS dX8_step_45
    · skip
      refine lv_bipush (v := (-4)) hx hb dX8_step_22 (by decide +kernel) ?_
      have hsp : sp_X8_step G K k set = ((-4), G, K, k) := by simp only [sp_X8_step, if_neg c_1, if_neg c_2]
      exact hret _ _ _ _ _ (by rw [hsp]) rfl (by rw [hsp]; exact hP) hS dX8_step_24
  · skip
    refine lv_bipush (v := (-2)) hx hb dX8_step_7 (by decide +kernel) ?_
    have hsp : sp_X8_step G K k set = ((-2), G, K, k) := by simp only [sp_X8_step, if_pos c_1]
    exact hret _ _ _ _ _ (by rw [hsp]) rfl (by rw [hsp]; exact hP) hS dX8_step_9

def sp_X8_wipe (G : Nat → Int32) (K : Nat → Int32) : Int32 × (Nat → Int32) × (Nat → Int32) :=
  ((K 1), (upd G 9 0), (upd K 1 0))
set_option maxHeartbeats 4000000 in
set_option maxRecDepth 100000 in
theorem c_X8_wipe (l : Launch) (D : va_G) (cI cJ cO : ClassId) (h : Nat) (r : Nat → Nat) (sa : Nat) (G : Nat → Int32) (K : Nat → Int32)  : MI l D (TY cI cJ cO) yX8_wipe wsX8_wipe (RM 0) [.ref h] [(h, oX8 r G), ((r 5), oX3 sa K)] ((sp_X8_wipe G K).1) [(h, oX8 r ((sp_X8_wipe G K).2.1)), ((r 5), oX3 sa ((sp_X8_wipe G K).2.2))] := by
  refine k_entI (cc := cX8_wipe) (maxL := 2) (lv := [(0, .ref h)]) (by decide +kernel) rfl (Nat.le_of_ble_eq_true rfl) rfl ?_
  intro p e s m below meth c A Q ls hx hb hml hts hown hA hS hP hD hK hN hl hret
  have hown : s.vm.findClass RX8 = some m.cls := hown
  have hi3 : ∀ w ∈ wsX30, w ∈ wsX8_wipe := fun w h => List.mem_cons_of_mem _ (List.mem_append_right _ h)
  have hi8 : ∀ w ∈ wsX80, w ∈ wsX8_wipe := fun w h => List.mem_cons_of_mem _ (List.mem_append_left _ (List.mem_append_right _ h))
  have hf45 := hts (.fieldLink RX8 45 "PressGuard" "script" "LPressGuard$Script;") (by decide +kernel)
  have hf72 := hts (.fieldLink RX8 72 "PressGuard" "sumsHold" "Z") (by decide +kernel)
  have hf149 := hts (.fieldLink RX8 149 "PressGuard$Script" "count" "I") (by decide +kernel)
  refine lv_aload_n hx hb dX8_wipe_0 rfl (lv_at hl 0 rfl) ?_
  refine k_get hx hb hts hi8 hown hK hP 0 rfl rfl 5 (by decide) hf45 (.ref (r 5)) rfl dX8_wipe_1 ?_
  refine k_get hx hb hts hi3 hown hK hP 1 rfl rfl 1 (by decide) hf149 (.int (K 1)) rfl dX8_wipe_4 ?_
  refine lv_istore_n (lv' := [(1, .int (K 1)), (0, .ref h)]) hx hb dX8_wipe_7 rfl hl (by decide) rfl (fun ls hl => ?_)
  refine lv_aload_n hx hb dX8_wipe_8 rfl (lv_at hl 1 rfl) ?_
  refine k_get hx hb hts hi8 hown hK hP 0 rfl rfl 5 (by decide) hf45 (.ref (r 5)) rfl dX8_wipe_9 ?_
  refine lv_iconst (v := 0) hx hb dX8_wipe_12 (by decide +kernel) ?_
  refine k_put hx hb hts hi3 tyX3_ok nmX3 hown hK hP hD hS 1 rfl rfl 1 (by decide) hf149 rfl (.int 0) rfl rfl (Nat.le_of_ble_eq_true rfl) (ws' := [(h, oX8 r G), ((r 5), oX3 sa (upd K 1 0))]) rfl dX8_wipe_13 (fun H locs hP hD hS => ?_)
  refine lv_aload_n hx hb dX8_wipe_16 rfl (lv_at hl 1 rfl) ?_
  refine lv_iconst (v := 0) hx hb dX8_wipe_17 (by decide +kernel) ?_
  refine k_put hx hb hts hi8 tyX8_ok nmX8 hown hK hP hD hS 0 rfl rfl 9 (by decide) hf72 rfl (.int 0) rfl rfl (Nat.le_of_ble_eq_true rfl) (ws' := [(h, oX8 r (upd G 9 0)), ((r 5), oX3 sa (upd K 1 0))]) rfl dX8_wipe_18 (fun H locs hP hD hS => ?_)
  refine lv_iload_n hx hb dX8_wipe_21 rfl (lv_at hl 0 rfl) ?_
  have hsp : sp_X8_wipe G K = ((K 1), (upd G 9 0), (upd K 1 0)) := rfl
  exact hret _ _ _ _ _ (by rw [hsp]) rfl (by rw [hsp]; exact hP) hS dX8_wipe_22

def sp_X8_stepAt (G : Nat → Int32) (K : Nat → Int32) (k : Nat → Int32) (k0 : Int32) : Int32 :=
  (if (sp_X8_within k0 0 ((K 1) - 1)) = 0 then
    (-1)
  else
    (sp_X3_setAt K k k0))
set_option maxHeartbeats 4000000 in
set_option maxRecDepth 100000 in
theorem c_X8_stepAt (l : Launch) (D : va_G) (cI cJ cO : ClassId) (h : Nat) (r : Nat → Nat) (sa : Nat) (G : Nat → Int32) (K : Nat → Int32) (k : Nat → Int32) (k0 : Int32)  : MI l D (TY cI cJ cO) yX8_stepAt wsX8_stepAt (RM 2) [.ref h, .int k0] [(h, oX8 r G), ((r 5), oX3 sa K), (sa, .inl (cI, 32, .inl k))] (sp_X8_stepAt G K k k0) [(h, oX8 r G), ((r 5), oX3 sa K), (sa, .inl (cI, 32, .inl k))] := by
  refine k_entI (cc := cX8_stepAt) (maxL := 2) (lv := [(0, .ref h), (1, .int k0)]) (by decide +kernel) rfl (Nat.le_of_ble_eq_true rfl) rfl ?_
  intro p e s m below meth c A Q ls hx hb hml hts hown hA hS hP hD hK hN hl hret
  have hown : s.vm.findClass RX8 = some m.cls := hown
  have hi3 : ∀ w ∈ wsX30, w ∈ wsX8_stepAt := fun w h => List.mem_cons_of_mem _ (List.mem_append_right _ h)
  have hi8 : ∀ w ∈ wsX80, w ∈ wsX8_stepAt := fun w h => List.mem_cons_of_mem _ (List.mem_append_left _ (List.mem_append_right _ h))
  have hf45 := hts (.fieldLink RX8 45 "PressGuard" "script" "LPressGuard$Script;") (by decide +kernel)
  have hf149 := hts (.fieldLink RX8 149 "PressGuard$Script" "count" "I") (by decide +kernel)
  refine lv_iload_n hx hb dX8_stepAt_0 rfl (lv_at hl 1 rfl) ?_
  refine lv_iconst (v := 0) hx hb dX8_stepAt_1 (by decide +kernel) ?_
  refine lv_aload_n hx hb dX8_stepAt_2 rfl (lv_at hl 0 rfl) ?_
  refine k_get hx hb hts hi8 hown hK hP 0 rfl rfl 5 (by decide) hf45 (.ref (r 5)) rfl dX8_stepAt_3 ?_
  refine k_get hx hb hts hi3 hown hK hP 1 rfl rfl 1 (by decide) hf149 (.int (K 1)) rfl dX8_stepAt_6 ?_
  refine lv_iconst (v := 1) hx hb dX8_stepAt_9 (by decide +kernel) ?_
  refine lv_isub hx hb dX8_stepAt_10 ?_
  refine k_Si ⟨hx, hb, hml, hown, hts⟩ (c_X8_within l D cI cJ cO k0 0 ((K 1) - 1)) (va_cwS 3 hts gX8_stepAt_X8_within rfl rfl rfl (by decide +kernel) ⟨Nat.le_of_ble_eq_true rfl, Nat.le_of_ble_eq_true rfl⟩) hK hN hP hD hS hA [] rfl rfl rfl (ws' := [(h, oX8 r G), ((r 5), oX3 sa K), (sa, .inl (cI, 32, .inl k))]) rfl rfl hl.1 rfl (Nat.le_of_ble_eq_true rfl) dX8_stepAt_11 ⟨Nat.le_refl _, Nat.le_refl _⟩ (fun H locs hP hD hS => ?_)
  refine lv_if_ne (tgt := 19) hx hb dX8_stepAt_14 (by decide) (fun c_1 => ?_) (fun c_1 => ?_)
  · skip
    refine lv_aload_n hx hb dX8_stepAt_19 rfl (lv_at hl 0 rfl) ?_
    refine k_get hx hb hts hi8 hown hK hP 0 rfl rfl 5 (by decide) hf45 (.ref (r 5)) rfl dX8_stepAt_20 ?_
    refine lv_iload_n hx hb dX8_stepAt_23 rfl (lv_at hl 1 rfl) ?_
    refine k_Vi ⟨hx, hb, hml, hown, hts⟩ (c_X3_setAt l D cI cJ cO (r 5) sa K k k0) (ci := 3) (q0 := 1) rfl rfl (cwV 1 hts gX8_stepAt_X3_setAt rfl rfl rfl (by decide +kernel) ⟨Nat.le_of_ble_eq_true rfl, Nat.le_of_ble_eq_true rfl⟩) hK hN hP hD hS hA [1, 2] rfl rfl rfl (ws' := [(h, oX8 r G), ((r 5), oX3 sa K), (sa, .inl (cI, 32, .inl k))]) rfl rfl hl.1 rfl (Nat.le_of_ble_eq_true rfl) dX8_stepAt_24 ⟨Nat.le_refl _, Nat.le_refl _⟩ (fun H locs hP hD hS => ?_)
    have hsp : sp_X8_stepAt G K k k0 = (sp_X3_setAt K k k0) := by simp only [sp_X8_stepAt, if_neg c_1]
    exact hret _ _ _ _ _ (by rw [hsp]) rfl hP hS dX8_stepAt_27
  · skip
    refine lv_iconst (v := (-1)) hx hb dX8_stepAt_17 (by decide +kernel) ?_
    have hsp : sp_X8_stepAt G K k k0 = (-1) := by simp only [sp_X8_stepAt, if_pos c_1]
    exact hret _ _ _ _ _ (by rw [hsp]) rfl hP hS dX8_stepAt_18

def sp_X8_trial (G : Nat → Int32) (S : Nat → Int32) (K : Nat → Int32) (k : Nat → Int32) (V : Nat → Int32) (E : Nat → Int32) (B : Nat → Int32) (input : Int32) (v : Int32) (fr : Int32) (what : Int32) : Int32 × (Nat → Int32) × (Nat → Int32) × (Nat → Int32) :=
  (if (sp_X8_within input 0 8) = 0 then
    ((-1), V, E, B)
  else
    (if (sp_X8_within v 0 1) = 0 then
      ((-2), V, E, B)
    else
      (if (sp_X8_within fr 0 (K 1)) = 0 then
        ((-2), V, E, B)
      else
        (if (sp_X8_within what 0 4) = 0 then
          ((-2), V, E, B)
        else
          let V_5 : Nat → Int32 := ((sp_X6_run V E B S K k input v fr).1)
          let G_6 : Nat → Int32 := ((sp_X6_run V E B S K k input v fr).2.1)
          let P_7 : Nat → Int32 := ((sp_X6_run V E B S K k input v fr).2.2)
          ((sp_X6_part V_5 P_7 what), V_5, G_6, P_7)))))
set_option maxRecDepth 100000 in
theorem sq_X8_trial_1 (G : Nat → Int32) (S : Nat → Int32) (K : Nat → Int32) (k : Nat → Int32) (V : Nat → Int32) (E : Nat → Int32) (B : Nat → Int32) (input : Int32) (v : Int32) (fr : Int32) (what : Int32) (V_5 : Nat → Int32) (G_6 : Nat → Int32) (P_7 : Nat → Int32) (eV_5 : V_5 = ((sp_X6_run V E B S K k input v fr).1)) (eG_6 : G_6 = ((sp_X6_run V E B S K k input v fr).2.1)) (eP_7 : P_7 = ((sp_X6_run V E B S K k input v fr).2.2)) (c_1 : ¬ ((sp_X8_within input 0 8) = 0)) (c_2 : ¬ ((sp_X8_within v 0 1) = 0)) (c_3 : ¬ ((sp_X8_within fr 0 (K 1)) = 0)) (c_4 : ¬ ((sp_X8_within what 0 4) = 0)) : sp_X8_trial G S K k V E B input v fr what = ((sp_X6_part V_5 P_7 what), V_5, G_6, P_7) := by subst eP_7; subst eG_6; subst eV_5; simp only [sp_X8_trial, if_neg c_1, if_neg c_2, if_neg c_3, if_neg c_4]
set_option maxHeartbeats 4000000 in
set_option maxRecDepth 100000 in
theorem c_X8_trial (l : Launch) (D : va_G) (cI cJ cO : ClassId) (h : Nat) (r : Nat → Nat) (sa : Nat) (tf : Nat) (tp : Nat) (G : Nat → Int32) (S : Nat → Int32) (K : Nat → Int32) (k : Nat → Int32) (V : Nat → Int32) (E : Nat → Int32) (B : Nat → Int32) (input : Int32) (v : Int32) (fr : Int32) (what : Int32) (hcnt : ¬ K 1 < 0) : MI l D (TY cI cJ cO) yX8_trial wsX8_trial (RM 5) [.ref h, .int input, .int v, .int fr, .int what] [(h, oX8 r G), ((r 0), oX5 S), ((r 5), oX3 sa K), (sa, .inl (cI, 32, .inl k)), ((r 6), oX6 tf tp V), (tf, oX0 E), (tp, oX2 (r 0) tf B)] ((sp_X8_trial G S K k V E B input v fr what).1) [(h, oX8 r G), ((r 0), oX5 S), ((r 5), oX3 sa K), (sa, .inl (cI, 32, .inl k)), ((r 6), oX6 tf tp ((sp_X8_trial G S K k V E B input v fr what).2.1)), (tf, oX0 ((sp_X8_trial G S K k V E B input v fr what).2.2.1)), (tp, oX2 (r 0) tf ((sp_X8_trial G S K k V E B input v fr what).2.2.2))] := by
  refine k_entI (cc := cX8_trial) (maxL := 5) (lv := [(0, .ref h), (1, .int input), (2, .int v), (3, .int fr), (4, .int what)]) (by decide +kernel) rfl (Nat.le_of_ble_eq_true rfl) rfl ?_
  intro p e s m below meth c A Q ls hx hb hml hts hown hA hS hP hD hK hN hl hret
  have hown : s.vm.findClass RX8 = some m.cls := hown
  have hi3 : ∀ w ∈ wsX30, w ∈ wsX8_trial := fun w h => List.mem_cons_of_mem _ (List.mem_append_left _ (List.mem_append_left _ (List.mem_append_left _ (List.mem_append_left _ (List.mem_append_right _ h)))))
  have hi8 : ∀ w ∈ wsX80, w ∈ wsX8_trial := fun w h => List.mem_cons_of_mem _ (List.mem_append_left _ (List.mem_append_left _ (List.mem_append_left _ (List.mem_append_left _ (List.mem_append_left _ (List.mem_append_right _ h))))))
  have hf45 := hts (.fieldLink RX8 45 "PressGuard" "script" "LPressGuard$Script;") (by decide +kernel)
  have hf54 := hts (.fieldLink RX8 54 "PressGuard" "stuckTrial" "LPressGuard$Trial;") (by decide +kernel)
  have hf149 := hts (.fieldLink RX8 149 "PressGuard$Script" "count" "I") (by decide +kernel)
  refine lv_iload_n hx hb dX8_trial_0 rfl (lv_at hl 1 rfl) ?_
  refine lv_iconst (v := 0) hx hb dX8_trial_1 (by decide +kernel) ?_
  refine lv_bipush (v := 8) hx hb dX8_trial_2 (by decide +kernel) ?_
  refine k_Si ⟨hx, hb, hml, hown, hts⟩ (c_X8_within l D cI cJ cO input 0 8) (va_cwS 3 hts gX8_trial_X8_within rfl rfl rfl (by decide +kernel) ⟨Nat.le_of_ble_eq_true rfl, Nat.le_of_ble_eq_true rfl⟩) hK hN hP hD hS hA [] rfl rfl rfl (ws' := [(h, oX8 r G), ((r 0), oX5 S), ((r 5), oX3 sa K), (sa, .inl (cI, 32, .inl k)), ((r 6), oX6 tf tp V), (tf, oX0 E), (tp, oX2 (r 0) tf B)]) rfl rfl hl.1 rfl (Nat.le_of_ble_eq_true rfl) dX8_trial_4 ⟨Nat.le_refl _, Nat.le_refl _⟩ (fun H locs hP hD hS => ?_)
  refine lv_if_ne (tgt := 12) hx hb dX8_trial_7 (by decide) (fun c_1 => ?_) (fun c_1 => ?_)
  · skip
    refine lv_iload_n hx hb dX8_trial_12 rfl (lv_at hl 2 rfl) ?_
    refine lv_iconst (v := 0) hx hb dX8_trial_13 (by decide +kernel) ?_
    refine lv_iconst (v := 1) hx hb dX8_trial_14 (by decide +kernel) ?_
    refine k_Si ⟨hx, hb, hml, hown, hts⟩ (c_X8_within l D cI cJ cO v 0 1) (va_cwS 3 hts gX8_trial_X8_within rfl rfl rfl (by decide +kernel) ⟨Nat.le_of_ble_eq_true rfl, Nat.le_of_ble_eq_true rfl⟩) hK hN hP hD hS hA [] rfl rfl rfl (ws' := [(h, oX8 r G), ((r 0), oX5 S), ((r 5), oX3 sa K), (sa, .inl (cI, 32, .inl k)), ((r 6), oX6 tf tp V), (tf, oX0 E), (tp, oX2 (r 0) tf B)]) rfl rfl hl.1 rfl (Nat.le_of_ble_eq_true rfl) dX8_trial_15 ⟨Nat.le_refl _, Nat.le_refl _⟩ (fun H locs hP hD hS => ?_)
    refine lv_if_eq (tgt := 46) hx hb dX8_trial_18 (by decide) (fun c_2 => ?_) (fun c_2 => ?_)
    · skip
      refine lv_bipush (v := (-2)) hx hb dX8_trial_46 (by decide +kernel) ?_
      have hsp : sp_X8_trial G S K k V E B input v fr what = ((-2), V, E, B) := by simp only [sp_X8_trial, if_neg c_1, if_pos c_2]
      exact hret _ _ _ _ _ (by rw [hsp]) rfl (by rw [hsp]; exact hP) hS dX8_trial_48
    · skip
      refine lv_iload_n hx hb dX8_trial_21 rfl (lv_at hl 3 rfl) ?_
      refine lv_iconst (v := 0) hx hb dX8_trial_22 (by decide +kernel) ?_
      refine lv_aload_n hx hb dX8_trial_23 rfl (lv_at hl 0 rfl) ?_
      refine k_get hx hb hts hi8 hown hK hP 0 rfl rfl 5 (by decide) hf45 (.ref (r 5)) rfl dX8_trial_24 ?_
      refine k_get hx hb hts hi3 hown hK hP 2 rfl rfl 1 (by decide) hf149 (.int (K 1)) rfl dX8_trial_27 ?_
      refine k_Si ⟨hx, hb, hml, hown, hts⟩ (c_X8_within l D cI cJ cO fr 0 (K 1)) (va_cwS 3 hts gX8_trial_X8_within rfl rfl rfl (by decide +kernel) ⟨Nat.le_of_ble_eq_true rfl, Nat.le_of_ble_eq_true rfl⟩) hK hN hP hD hS hA [] rfl rfl rfl (ws' := [(h, oX8 r G), ((r 0), oX5 S), ((r 5), oX3 sa K), (sa, .inl (cI, 32, .inl k)), ((r 6), oX6 tf tp V), (tf, oX0 E), (tp, oX2 (r 0) tf B)]) rfl rfl hl.1 rfl (Nat.le_of_ble_eq_true rfl) dX8_trial_30 ⟨Nat.le_refl _, Nat.le_refl _⟩ (fun H locs hP hD hS => ?_)
      refine lv_if_eq (tgt := 46) hx hb dX8_trial_33 (by decide) (fun c_3 => ?_) (fun c_3 => ?_)
      · skip
        refine lv_bipush (v := (-2)) hx hb dX8_trial_46 (by decide +kernel) ?_
        have hsp : sp_X8_trial G S K k V E B input v fr what = ((-2), V, E, B) := by simp only [sp_X8_trial, if_neg c_1, if_neg c_2, if_pos c_3]
        exact hret _ _ _ _ _ (by rw [hsp]) rfl (by rw [hsp]; exact hP) hS dX8_trial_48
      · skip
        refine lv_iload hx hb dX8_trial_36 (lv_at hl 4 rfl) ?_
        refine lv_iconst (v := 0) hx hb dX8_trial_38 (by decide +kernel) ?_
        refine lv_iconst (v := 4) hx hb dX8_trial_39 (by decide +kernel) ?_
        refine k_Si ⟨hx, hb, hml, hown, hts⟩ (c_X8_within l D cI cJ cO what 0 4) (va_cwS 3 hts gX8_trial_X8_within rfl rfl rfl (by decide +kernel) ⟨Nat.le_of_ble_eq_true rfl, Nat.le_of_ble_eq_true rfl⟩) hK hN hP hD hS hA [] rfl rfl rfl (ws' := [(h, oX8 r G), ((r 0), oX5 S), ((r 5), oX3 sa K), (sa, .inl (cI, 32, .inl k)), ((r 6), oX6 tf tp V), (tf, oX0 E), (tp, oX2 (r 0) tf B)]) rfl rfl hl.1 rfl (Nat.le_of_ble_eq_true rfl) dX8_trial_40 ⟨Nat.le_refl _, Nat.le_refl _⟩ (fun H locs hP hD hS => ?_)
        refine lv_if_ne (tgt := 49) hx hb dX8_trial_43 (by decide) (fun c_4 => ?_) (fun c_4 => ?_)
        · skip
          refine lv_aload_n hx hb dX8_trial_49 rfl (lv_at hl 0 rfl) ?_
          refine k_get hx hb hts hi8 hown hK hP 0 rfl rfl 6 (by decide) hf54 (.ref (r 6)) rfl dX8_trial_50 ?_
          refine lv_aload_n hx hb dX8_trial_53 rfl (lv_at hl 0 rfl) ?_
          refine k_get hx hb hts hi8 hown hK hP 0 rfl rfl 5 (by decide) hf45 (.ref (r 5)) rfl dX8_trial_54 ?_
          refine lv_iload_n hx hb dX8_trial_57 rfl (lv_at hl 1 rfl) ?_
          refine lv_iload_n hx hb dX8_trial_58 rfl (lv_at hl 2 rfl) ?_
          refine lv_iload_n hx hb dX8_trial_59 rfl (lv_at hl 3 rfl) ?_
          obtain ⟨V_5, eV_5⟩ : ∃ q : Nat → Int32, q = ((sp_X6_run V E B S K k input v fr).1) := ⟨_, rfl⟩
          obtain ⟨G_6, eG_6⟩ : ∃ q : Nat → Int32, q = ((sp_X6_run V E B S K k input v fr).2.1) := ⟨_, rfl⟩
          obtain ⟨P_7, eP_7⟩ : ∃ q : Nat → Int32, q = ((sp_X6_run V E B S K k input v fr).2.2) := ⟨_, rfl⟩
          refine k_Vv ⟨hx, hb, hml, hown, hts⟩ (c_X6_run l D cI cJ cO (r 6) (r 5) tf tp (r 0) sa V E B S K k input v fr hcnt) (ci := 6) (q0 := 4) rfl rfl (cwV 4 hts gX8_trial_X6_run rfl rfl rfl (by decide +kernel) ⟨Nat.le_of_ble_eq_true rfl, Nat.le_of_ble_eq_true rfl⟩) hK hN hP hD hS hA [4, 5, 6, 1, 2, 3] rfl rfl rfl (ws' := [(h, oX8 r G), ((r 0), oX5 S), ((r 5), oX3 sa K), (sa, .inl (cI, 32, .inl k)), ((r 6), oX6 tf tp V_5), (tf, oX0 G_6), (tp, oX2 (r 0) tf P_7)]) (by rw [eV_5, eG_6, eP_7]; rfl) rfl hl.1 rfl (Nat.le_of_ble_eq_true rfl) dX8_trial_60 ⟨Nat.le_refl _, Nat.le_refl _⟩ (fun H locs hP hD hS => ?_)
          refine lv_aload_n hx hb dX8_trial_63 rfl (lv_at hl 0 rfl) ?_
          refine k_get hx hb hts hi8 hown hK hP 0 rfl rfl 6 (by decide) hf54 (.ref (r 6)) rfl dX8_trial_64 ?_
          refine lv_iload hx hb dX8_trial_67 (lv_at hl 4 rfl) ?_
          refine k_Vi ⟨hx, hb, hml, hown, hts⟩ (c_X6_part l D cI cJ cO (r 6) tf tp (r 0) V_5 P_7 what) (ci := 6) (q0 := 4) rfl rfl (cwV 1 hts gX8_trial_X6_part rfl rfl rfl (by decide +kernel) ⟨Nat.le_of_ble_eq_true rfl, Nat.le_of_ble_eq_true rfl⟩) hK hN hP hD hS hA [4, 6] rfl rfl rfl (ws' := [(h, oX8 r G), ((r 0), oX5 S), ((r 5), oX3 sa K), (sa, .inl (cI, 32, .inl k)), ((r 6), oX6 tf tp V_5), (tf, oX0 G_6), (tp, oX2 (r 0) tf P_7)]) rfl rfl hl.1 rfl (Nat.le_of_ble_eq_true rfl) dX8_trial_69 ⟨Nat.le_refl _, Nat.le_refl _⟩ (fun H locs hP hD hS => ?_)
          have hsp : sp_X8_trial G S K k V E B input v fr what = ((sp_X6_part V_5 P_7 what), V_5, G_6, P_7) := sq_X8_trial_1 G S K k V E B input v fr what V_5 G_6 P_7 eV_5 eG_6 eP_7 c_1 c_2 c_3 c_4
          exact hret _ _ _ _ _ (by rw [hsp]) rfl (by rw [hsp]; exact hP) hS dX8_trial_72
        · skip
          refine lv_bipush (v := (-2)) hx hb dX8_trial_46 (by decide +kernel) ?_
          have hsp : sp_X8_trial G S K k V E B input v fr what = ((-2), V, E, B) := by simp only [sp_X8_trial, if_neg c_1, if_neg c_2, if_neg c_3, if_pos c_4]
          exact hret _ _ _ _ _ (by rw [hsp]) rfl (by rw [hsp]; exact hP) hS dX8_trial_48
  · skip
    refine lv_iconst (v := (-1)) hx hb dX8_trial_10 (by decide +kernel) ?_
    have hsp : sp_X8_trial G S K k V E B input v fr what = ((-1), V, E, B) := by simp only [sp_X8_trial, if_pos c_1]
    exact hret _ _ _ _ _ (by rw [hsp]) rfl (by rw [hsp]; exact hP) hS dX8_trial_11

def bd_X8_sumUpTrialsOf_30 (S : Nat → Int32) (K : Nat → Int32) (k : Nat → Int32) (input : Int32) (v : Int32) (i_4 : Nat) (x_5 : (Nat → Int32) × (Nat → Int32) × (Nat → Int32) × (Nat → Int32)) : (Nat → Int32) × (Nat → Int32) × (Nat → Int32) × (Nat → Int32) :=
  (let z_6 : Int32 := (sp_X8_bit (sp_X3_setAt K k (nI ((K 1).toNatClampNeg - 1 - i_4))) input); (let z_7 : Nat → Int32 := (if z_6 = v then (x_5.2.1) else (let V_7 : Nat → Int32 := ((sp_X6_run (x_5.2.1) (x_5.2.2.1) (x_5.2.2.2) S K k input v (nI ((K 1).toNatClampNeg - 1 - i_4))).1); V_7)); (let z_8 : Nat → Int32 := (if z_6 = v then (x_5.2.2.1) else (let G_8 : Nat → Int32 := ((sp_X6_run (x_5.2.1) (x_5.2.2.1) (x_5.2.2.2) S K k input v (nI ((K 1).toNatClampNeg - 1 - i_4))).2.1); G_8)); (let z_9 : Nat → Int32 := (if z_6 = v then (x_5.2.2.2) else (let P_9 : Nat → Int32 := ((sp_X6_run (x_5.2.1) (x_5.2.2.1) (x_5.2.2.2) S K k input v (nI ((K 1).toNatClampNeg - 1 - i_4))).2.2); P_9)); (let U_11 : Nat → Int32 := (sp_X7_add (x_5.1) z_7 z_9 (nI ((K 1).toNatClampNeg - 1 - i_4))); (U_11, z_7, z_8, z_9))))))
def sp_X8_sumUpTrialsOf (G : Nat → Int32) (U : Nat → Int32) (S : Nat → Int32) (K : Nat → Int32) (k : Nat → Int32) (V : Nat → Int32) (E : Nat → Int32) (B : Nat → Int32) (input : Int32) (v : Int32) : (Nat → Int32) × (Nat → Int32) × (Nat → Int32) × (Nat → Int32) :=
  let V_1 : Nat → Int32 := ((sp_X6_run V E B S K k input v (K 1)).1)
  let G_2 : Nat → Int32 := ((sp_X6_run V E B S K k input v (K 1)).2.1)
  let P_3 : Nat → Int32 := ((sp_X6_run V E B S K k input v (K 1)).2.2)
  let x_5 : (Nat → Int32) × (Nat → Int32) × (Nat → Int32) × (Nat → Int32) := lp (bd_X8_sumUpTrialsOf_30 S K k input v) ((K 1).toNatClampNeg) (U, V_1, G_2, P_3)
  ((x_5.1), (x_5.2.1), (x_5.2.2.1), (x_5.2.2.2))
set_option maxRecDepth 100000 in
theorem sq_X8_sumUpTrialsOf_1 (G : Nat → Int32) (U : Nat → Int32) (S : Nat → Int32) (K : Nat → Int32) (k : Nat → Int32) (V : Nat → Int32) (E : Nat → Int32) (B : Nat → Int32) (input : Int32) (v : Int32) (V_1 : Nat → Int32) (G_2 : Nat → Int32) (P_3 : Nat → Int32) (x_5 : (Nat → Int32) × (Nat → Int32) × (Nat → Int32) × (Nat → Int32)) (eV_1 : V_1 = ((sp_X6_run V E B S K k input v (K 1)).1)) (eG_2 : G_2 = ((sp_X6_run V E B S K k input v (K 1)).2.1)) (eP_3 : P_3 = ((sp_X6_run V E B S K k input v (K 1)).2.2)) (ex_5 : x_5 = lp (bd_X8_sumUpTrialsOf_30 S K k input v) ((K 1).toNatClampNeg) (U, V_1, G_2, P_3)) : sp_X8_sumUpTrialsOf G U S K k V E B input v = ((x_5.1), (x_5.2.1), (x_5.2.2.1), (x_5.2.2.2)) := by subst ex_5; subst eP_3; subst eG_2; subst eV_1; rfl
set_option maxHeartbeats 4000000 in
set_option maxRecDepth 100000 in
theorem c_X8_sumUpTrialsOf (l : Launch) (D : va_G) (cI cJ cO : ClassId) (h : Nat) (r : Nat → Nat) (sa : Nat) (tf : Nat) (tp : Nat) (G : Nat → Int32) (U : Nat → Int32) (S : Nat → Int32) (K : Nat → Int32) (k : Nat → Int32) (V : Nat → Int32) (E : Nat → Int32) (B : Nat → Int32) (input : Int32) (v : Int32) (hcnt : ¬ K 1 < 0) : MV l D (TY cI cJ cO) yX8_sumUpTrialsOf wsX8_sumUpTrialsOf (RM 5) [.ref h, .int input, .int v] [(h, oX8 r G), ((r 7), oX7 U), ((r 0), oX5 S), ((r 5), oX3 sa K), (sa, .inl (cI, 32, .inl k)), ((r 6), oX6 tf tp V), (tf, oX0 E), (tp, oX2 (r 0) tf B)] [(h, oX8 r G), ((r 7), oX7 ((sp_X8_sumUpTrialsOf G U S K k V E B input v).1)), ((r 0), oX5 S), ((r 5), oX3 sa K), (sa, .inl (cI, 32, .inl k)), ((r 6), oX6 tf tp ((sp_X8_sumUpTrialsOf G U S K k V E B input v).2.1)), (tf, oX0 ((sp_X8_sumUpTrialsOf G U S K k V E B input v).2.2.1)), (tp, oX2 (r 0) tf ((sp_X8_sumUpTrialsOf G U S K k V E B input v).2.2.2))] := by
  refine k_entV (cc := cX8_sumUpTrialsOf) (maxL := 4) (lv := [(0, .ref h), (1, .int input), (2, .int v)]) (by decide +kernel) rfl (Nat.le_of_ble_eq_true rfl) rfl ?_
  intro p e s m below meth c A Q ls hx hb hml hts hown hA hS hP hD hK hN hl hret
  have hown : s.vm.findClass RX8 = some m.cls := hown
  have hi3 : ∀ w ∈ wsX30, w ∈ wsX8_sumUpTrialsOf := fun w h => List.mem_cons_of_mem _ (List.mem_append_left _ (List.mem_append_left _ (List.mem_append_left _ (List.mem_append_left _ (List.mem_append_left _ (List.mem_append_right _ h))))))
  have hi8 : ∀ w ∈ wsX80, w ∈ wsX8_sumUpTrialsOf := fun w h => List.mem_cons_of_mem _ (List.mem_append_left _ (List.mem_append_left _ (List.mem_append_left _ (List.mem_append_left _ (List.mem_append_left _ (List.mem_append_left _ (List.mem_append_right _ h)))))))
  have hf45 := hts (.fieldLink RX8 45 "PressGuard" "script" "LPressGuard$Script;") (by decide +kernel)
  have hf54 := hts (.fieldLink RX8 54 "PressGuard" "stuckTrial" "LPressGuard$Trial;") (by decide +kernel)
  have hf61 := hts (.fieldLink RX8 61 "PressGuard" "sums" "LPressGuard$TrialSums;") (by decide +kernel)
  have hf149 := hts (.fieldLink RX8 149 "PressGuard$Script" "count" "I") (by decide +kernel)
  refine lv_aload_n hx hb dX8_sumUpTrialsOf_0 rfl (lv_at hl 0 rfl) ?_
  refine k_get hx hb hts hi8 hown hK hP 0 rfl rfl 6 (by decide) hf54 (.ref (r 6)) rfl dX8_sumUpTrialsOf_1 ?_
  refine lv_aload_n hx hb dX8_sumUpTrialsOf_4 rfl (lv_at hl 0 rfl) ?_
  refine k_get hx hb hts hi8 hown hK hP 0 rfl rfl 5 (by decide) hf45 (.ref (r 5)) rfl dX8_sumUpTrialsOf_5 ?_
  refine lv_iload_n hx hb dX8_sumUpTrialsOf_8 rfl (lv_at hl 1 rfl) ?_
  refine lv_iload_n hx hb dX8_sumUpTrialsOf_9 rfl (lv_at hl 2 rfl) ?_
  refine lv_aload_n hx hb dX8_sumUpTrialsOf_10 rfl (lv_at hl 0 rfl) ?_
  refine k_get hx hb hts hi8 hown hK hP 0 rfl rfl 5 (by decide) hf45 (.ref (r 5)) rfl dX8_sumUpTrialsOf_11 ?_
  refine k_get hx hb hts hi3 hown hK hP 3 rfl rfl 1 (by decide) hf149 (.int (K 1)) rfl dX8_sumUpTrialsOf_14 ?_
  obtain ⟨V_1, eV_1⟩ : ∃ q : Nat → Int32, q = ((sp_X6_run V E B S K k input v (K 1)).1) := ⟨_, rfl⟩
  obtain ⟨G_2, eG_2⟩ : ∃ q : Nat → Int32, q = ((sp_X6_run V E B S K k input v (K 1)).2.1) := ⟨_, rfl⟩
  obtain ⟨P_3, eP_3⟩ : ∃ q : Nat → Int32, q = ((sp_X6_run V E B S K k input v (K 1)).2.2) := ⟨_, rfl⟩
  refine k_Vv ⟨hx, hb, hml, hown, hts⟩ (c_X6_run l D cI cJ cO (r 6) (r 5) tf tp (r 0) sa V E B S K k input v (K 1) hcnt) (ci := 6) (q0 := 5) rfl rfl (cwV 4 hts gX8_sumUpTrialsOf_X6_run rfl rfl rfl (by decide +kernel) ⟨Nat.le_of_ble_eq_true rfl, Nat.le_of_ble_eq_true rfl⟩) hK hN hP hD hS hA [5, 6, 7, 2, 3, 4] rfl rfl rfl (ws' := [(h, oX8 r G), ((r 7), oX7 U), ((r 0), oX5 S), ((r 5), oX3 sa K), (sa, .inl (cI, 32, .inl k)), ((r 6), oX6 tf tp V_1), (tf, oX0 G_2), (tp, oX2 (r 0) tf P_3)]) (by rw [eV_1, eG_2, eP_3]; rfl) rfl hl.1 rfl (Nat.le_of_ble_eq_true rfl) dX8_sumUpTrialsOf_17 ⟨Nat.le_refl _, Nat.le_refl _⟩ (fun H locs hP hD hS => ?_)
  refine lv_aload_n hx hb dX8_sumUpTrialsOf_20 rfl (lv_at hl 0 rfl) ?_
  refine k_get hx hb hts hi8 hown hK hP 0 rfl rfl 5 (by decide) hf45 (.ref (r 5)) rfl dX8_sumUpTrialsOf_21 ?_
  refine k_get hx hb hts hi3 hown hK hP 3 rfl rfl 1 (by decide) hf149 (.int (K 1)) rfl dX8_sumUpTrialsOf_24 ?_
  refine lv_iconst (v := 1) hx hb dX8_sumUpTrialsOf_27 (by decide +kernel) ?_
  refine lv_isub hx hb dX8_sumUpTrialsOf_28 ?_
  refine lv_istore_n (lv' := [(3, .int ((K 1) - 1)), (0, .ref h), (1, .int input), (2, .int v)]) hx hb dX8_sumUpTrialsOf_29 rfl hl (by decide) rfl (fun ls hl => ?_)
  obtain ⟨fx_5, hfx_5⟩ : ∃ f : Nat → (Nat → Int32) × (Nat → Int32) × (Nat → Int32) × (Nat → Int32) → (Nat → Int32) × (Nat → Int32) × (Nat → Int32) × (Nat → Int32), f = (bd_X8_sumUpTrialsOf_30 S K k input v) := ⟨_, rfl⟩
  have hB_x_5 : (K 1) = nI ((K 1).toNatClampNeg) := nI_self hcnt
  have hN_x_5 : (K 1).toNatClampNeg < 2 ^ 31 := clamp_lt _
  have Lx_5 : ∀ (nn i_4 : Nat) (x_5 : (Nat → Int32) × (Nat → Int32) × (Nat → Int32) × (Nat → Int32)), (K 1).toNatClampNeg + 1 ≤ i_4 + nn → i_4 ≤ (K 1).toNatClampNeg → x_5 = lp fx_5 i_4 (U, V_1, G_2, P_3) → ∀ w_x_5 : Int32, w_x_5 = nI ((K 1).toNatClampNeg - i_4) - 1 → ∀ (H : Heap) (locs : List Loc), va_P D vwCl [(h, oX8 r G), ((r 7), oX7 (x_5.1)), ((r 0), oX5 S), ((r 5), oX3 sa K), (sa, .inl (cI, 32, .inl k)), ((r 6), oX6 tf tp (x_5.2.1)), (tf, oX0 (x_5.2.2.1)), (tp, oX2 (r 0) tf (x_5.2.2.2))] H → va_D A [(h, oX8 r G), ((r 7), oX7 (x_5.1)), ((r 0), oX5 S), ((r 5), oX3 sa K), (sa, .inl (cI, 32, .inl k)), ((r 6), oX6 tf tp (x_5.2.1)), (tf, oX0 (x_5.2.2.1)), (tp, oX2 (r 0) tf (x_5.2.2.2))] → va_S A s.heap H locs → ∀ ls : Array Slot, lv_has ls 4 [(0, .ref h), (1, .int input), (2, .int v), (3, .int w_x_5)] → W p l e (RM 5) s m ([.ref h, .int input, .int v] : List Value).toArray below meth c H locs 0 0 Q (F0 m 30 ls []) := by
    intro nn_x_5
    induction nn_x_5 with
    | zero => intro i_4 x_5 h1 h2; exact absurd h1 (by omega)
    | succ nn_x_5 ih_x_5 =>
      intro i_4 x_5 hn_x_5 hi_i_4 ex_x_5 w_x_5 hw_x_5 H locs hP hD hS ls hl
      refine lv_iload_n hx hb dX8_sumUpTrialsOf_30 rfl (lv_at hl 3 rfl) ?_
      refine lv_if_lt (tgt := 82) hx hb dX8_sumUpTrialsOf_31 (by decide) (fun c_6 => ?_) (fun c_6 => ?_)
      · skip
        have hq_x_5 : i_4 = (K 1).toNatClampNeg := dn_eq hw_x_5 c_6 hi_i_4 hN_x_5
        have ex_5 : x_5 = lp (bd_X8_sumUpTrialsOf_30 S K k input v) ((K 1).toNatClampNeg) (U, V_1, G_2, P_3) := by rw [ex_x_5, hfx_5, hq_x_5]
        have hsp : sp_X8_sumUpTrialsOf G U S K k V E B input v = ((x_5.1), (x_5.2.1), (x_5.2.2.1), (x_5.2.2.2)) := sq_X8_sumUpTrialsOf_1 G U S K k V E B input v V_1 G_2 P_3 x_5 eV_1 eG_2 eP_3 ex_5
        exact hret _ _ _ _ (by rw [hsp]; exact hP) hS dX8_sumUpTrialsOf_82
      · skip
        have hlt_i_4 : i_4 < (K 1).toNatClampNeg := dn_lt hw_x_5 c_6 hi_i_4 hN_x_5
        obtain rfl : w_x_5 = nI ((K 1).toNatClampNeg - 1 - i_4) := dn_val hw_x_5 hlt_i_4
        refine lv_aload_n hx hb dX8_sumUpTrialsOf_34 rfl (lv_at hl 0 rfl) ?_
        refine k_get hx hb hts hi8 hown hK hP 0 rfl rfl 5 (by decide) hf45 (.ref (r 5)) rfl dX8_sumUpTrialsOf_35 ?_
        refine lv_iload_n hx hb dX8_sumUpTrialsOf_38 rfl (lv_at hl 3 rfl) ?_
        refine k_Vi ⟨hx, hb, hml, hown, hts⟩ (c_X3_setAt l D cI cJ cO (r 5) sa K k (nI ((K 1).toNatClampNeg - 1 - i_4))) (ci := 3) (q0 := 3) rfl rfl (cwV 1 hts gX8_sumUpTrialsOf_X3_setAt rfl rfl rfl (by decide +kernel) ⟨Nat.le_of_ble_eq_true rfl, Nat.le_of_ble_eq_true rfl⟩) hK hN hP hD hS hA [3, 4] rfl rfl rfl (ws' := [(h, oX8 r G), ((r 7), oX7 (x_5.1)), ((r 0), oX5 S), ((r 5), oX3 sa K), (sa, .inl (cI, 32, .inl k)), ((r 6), oX6 tf tp (x_5.2.1)), (tf, oX0 (x_5.2.2.1)), (tp, oX2 (r 0) tf (x_5.2.2.2))]) rfl rfl hl.1 rfl (Nat.le_of_ble_eq_true rfl) dX8_sumUpTrialsOf_39 ⟨Nat.le_refl _, Nat.le_refl _⟩ (fun H locs hP hD hS => ?_)
        refine lv_iload_n hx hb dX8_sumUpTrialsOf_42 rfl (lv_at hl 1 rfl) ?_
        refine k_Si ⟨hx, hb, hml, hown, hts⟩ (c_X8_bit l D cI cJ cO (sp_X3_setAt K k (nI ((K 1).toNatClampNeg - 1 - i_4))) input) (va_cwS 2 hts gX8_sumUpTrialsOf_X8_bit rfl rfl rfl (by decide +kernel) ⟨Nat.le_of_ble_eq_true rfl, Nat.le_of_ble_eq_true rfl⟩) hK hN hP hD hS hA [] rfl rfl rfl (ws' := [(h, oX8 r G), ((r 7), oX7 (x_5.1)), ((r 0), oX5 S), ((r 5), oX3 sa K), (sa, .inl (cI, 32, .inl k)), ((r 6), oX6 tf tp (x_5.2.1)), (tf, oX0 (x_5.2.2.1)), (tp, oX2 (r 0) tf (x_5.2.2.2))]) rfl rfl hl.1 rfl (Nat.le_of_ble_eq_true rfl) dX8_sumUpTrialsOf_43 ⟨Nat.le_refl _, Nat.le_refl _⟩ (fun H locs hP hD hS => ?_)
        refine lv_topi (fun z_7 ez_7 => ?_)
        refine lv_iload_n hx hb dX8_sumUpTrialsOf_46 rfl (lv_at hl 2 rfl) ?_
        have J_11 : ∀ z_8 : Nat → Int32, z_8 = (if z_7 = v then (x_5.2.1) else (let V_8 : Nat → Int32 := ((sp_X6_run (x_5.2.1) (x_5.2.2.1) (x_5.2.2.2) S K k input v (nI ((K 1).toNatClampNeg - 1 - i_4))).1); V_8)) → ∀ z_9 : Nat → Int32, z_9 = (if z_7 = v then (x_5.2.2.1) else (let G_9 : Nat → Int32 := ((sp_X6_run (x_5.2.1) (x_5.2.2.1) (x_5.2.2.2) S K k input v (nI ((K 1).toNatClampNeg - 1 - i_4))).2.1); G_9)) → ∀ z_10 : Nat → Int32, z_10 = (if z_7 = v then (x_5.2.2.2) else (let P_10 : Nat → Int32 := ((sp_X6_run (x_5.2.1) (x_5.2.2.1) (x_5.2.2.2) S K k input v (nI ((K 1).toNatClampNeg - 1 - i_4))).2.2); P_10)) → ∀ (H : Heap) (locs : List Loc), va_P D vwCl [(h, oX8 r G), ((r 7), oX7 (x_5.1)), ((r 0), oX5 S), ((r 5), oX3 sa K), (sa, .inl (cI, 32, .inl k)), ((r 6), oX6 tf tp z_8), (tf, oX0 z_9), (tp, oX2 (r 0) tf z_10)] H → va_D A [(h, oX8 r G), ((r 7), oX7 (x_5.1)), ((r 0), oX5 S), ((r 5), oX3 sa K), (sa, .inl (cI, 32, .inl k)), ((r 6), oX6 tf tp z_8), (tf, oX0 z_9), (tp, oX2 (r 0) tf z_10)] → va_S A s.heap H locs → ∀ ls : Array Slot, lv_has ls 4 [(0, .ref h), (1, .int input), (2, .int v), (3, .int (nI ((K 1).toNatClampNeg - 1 - i_4)))] → W p l e (RM 5) s m ([.ref h, .int input, .int v] : List Value).toArray below meth c H locs 0 0 Q (F0 m 64 ls []) := by
          intro z_8 ez_8 z_9 ez_9 z_10 ez_10 H locs hP hD hS ls hl
          refine lv_aload_n hx hb dX8_sumUpTrialsOf_64 rfl (lv_at hl 0 rfl) ?_
          refine k_get hx hb hts hi8 hown hK hP 0 rfl rfl 7 (by decide) hf61 (.ref (r 7)) rfl dX8_sumUpTrialsOf_65 ?_
          refine lv_aload_n hx hb dX8_sumUpTrialsOf_68 rfl (lv_at hl 0 rfl) ?_
          refine k_get hx hb hts hi8 hown hK hP 0 rfl rfl 6 (by decide) hf54 (.ref (r 6)) rfl dX8_sumUpTrialsOf_69 ?_
          refine lv_iload_n hx hb dX8_sumUpTrialsOf_72 rfl (lv_at hl 3 rfl) ?_
          obtain ⟨U_12, eU_12⟩ : ∃ q : Nat → Int32, q = (sp_X7_add (x_5.1) z_8 z_10 (nI ((K 1).toNatClampNeg - 1 - i_4))) := ⟨_, rfl⟩
          refine k_Vv ⟨hx, hb, hml, hown, hts⟩ (c_X7_add l D cI cJ cO (r 7) (r 6) tf tp (r 0) (x_5.1) z_8 z_10 (nI ((K 1).toNatClampNeg - 1 - i_4))) (ci := 7) (q0 := 1) rfl rfl (cwV 2 hts gX8_sumUpTrialsOf_X7_add rfl rfl rfl (by decide +kernel) ⟨Nat.le_of_ble_eq_true rfl, Nat.le_of_ble_eq_true rfl⟩) hK hN hP hD hS hA [1, 5, 7] rfl rfl rfl (ws' := [(h, oX8 r G), ((r 7), oX7 U_12), ((r 0), oX5 S), ((r 5), oX3 sa K), (sa, .inl (cI, 32, .inl k)), ((r 6), oX6 tf tp z_8), (tf, oX0 z_9), (tp, oX2 (r 0) tf z_10)]) (by rw [eU_12]; rfl) rfl hl.1 rfl (Nat.le_of_ble_eq_true rfl) dX8_sumUpTrialsOf_73 ⟨Nat.le_refl _, Nat.le_refl _⟩ (fun H locs hP hD hS => ?_)
          refine lv_iinc (v := ((nI ((K 1).toNatClampNeg - 1 - i_4)) + (-1))) (lv' := [(3, .int ((nI ((K 1).toNatClampNeg - 1 - i_4)) + (-1))), (0, .ref h), (1, .int input), (2, .int v)]) hx hb dX8_sumUpTrialsOf_76 hl (k := 3) rfl rfl (by decide) rfl (fun ls hl => ?_)
          refine lv_goto (tgt := 30) hx hb dX8_sumUpTrialsOf_79 (by decide) ?_
          exact ih_x_5 (i_4 + 1) (U_12, z_8, z_9, z_10) (by omega) (by omega) (by subst eU_12; subst ez_10; subst ez_9; subst ez_8; subst ez_7; rw [show lp fx_5 (i_4 + 1) (U, V_1, G_2, P_3) = fx_5 i_4 (lp fx_5 i_4 (U, V_1, G_2, P_3)) from rfl, ← ex_x_5, hfx_5]; try (first | (rfl; done) | rfl)) ((nI ((K 1).toNatClampNeg - 1 - i_4)) + (-1)) (dn_step hlt_i_4) _ _ hP hD hS _ (lv_sub hl [1, 2, 3, 0] rfl)
        refine lv_icmp_eq (tgt := 64) hx hb dX8_sumUpTrialsOf_47 (by decide) (fun c_13 => ?_) (fun c_13 => ?_)
        · skip
          exact J_11 (x_5.2.1) (by first | (simp only [if_pos c_13]; done) | rfl) (x_5.2.2.1) (by first | (simp only [if_pos c_13]; done) | rfl) (x_5.2.2.2) (by first | (simp only [if_pos c_13]; done) | rfl) _ _ hP hD hS _ (lv_sub hl [0, 1, 2, 3] rfl)
        · skip
          refine lv_aload_n hx hb dX8_sumUpTrialsOf_50 rfl (lv_at hl 0 rfl) ?_
          refine k_get hx hb hts hi8 hown hK hP 0 rfl rfl 6 (by decide) hf54 (.ref (r 6)) rfl dX8_sumUpTrialsOf_51 ?_
          refine lv_aload_n hx hb dX8_sumUpTrialsOf_54 rfl (lv_at hl 0 rfl) ?_
          refine k_get hx hb hts hi8 hown hK hP 0 rfl rfl 5 (by decide) hf45 (.ref (r 5)) rfl dX8_sumUpTrialsOf_55 ?_
          refine lv_iload_n hx hb dX8_sumUpTrialsOf_58 rfl (lv_at hl 1 rfl) ?_
          refine lv_iload_n hx hb dX8_sumUpTrialsOf_59 rfl (lv_at hl 2 rfl) ?_
          refine lv_iload_n hx hb dX8_sumUpTrialsOf_60 rfl (lv_at hl 3 rfl) ?_
          obtain ⟨V_14, eV_14⟩ : ∃ q : Nat → Int32, q = ((sp_X6_run (x_5.2.1) (x_5.2.2.1) (x_5.2.2.2) S K k input v (nI ((K 1).toNatClampNeg - 1 - i_4))).1) := ⟨_, rfl⟩
          obtain ⟨G_15, eG_15⟩ : ∃ q : Nat → Int32, q = ((sp_X6_run (x_5.2.1) (x_5.2.2.1) (x_5.2.2.2) S K k input v (nI ((K 1).toNatClampNeg - 1 - i_4))).2.1) := ⟨_, rfl⟩
          obtain ⟨P_16, eP_16⟩ : ∃ q : Nat → Int32, q = ((sp_X6_run (x_5.2.1) (x_5.2.2.1) (x_5.2.2.2) S K k input v (nI ((K 1).toNatClampNeg - 1 - i_4))).2.2) := ⟨_, rfl⟩
          refine k_Vv ⟨hx, hb, hml, hown, hts⟩ (c_X6_run l D cI cJ cO (r 6) (r 5) tf tp (r 0) sa (x_5.2.1) (x_5.2.2.1) (x_5.2.2.2) S K k input v (nI ((K 1).toNatClampNeg - 1 - i_4)) hcnt) (ci := 6) (q0 := 5) rfl rfl (cwV 4 hts gX8_sumUpTrialsOf_X6_run rfl rfl rfl (by decide +kernel) ⟨Nat.le_of_ble_eq_true rfl, Nat.le_of_ble_eq_true rfl⟩) hK hN hP hD hS hA [5, 6, 7, 2, 3, 4] rfl rfl rfl (ws' := [(h, oX8 r G), ((r 7), oX7 (x_5.1)), ((r 0), oX5 S), ((r 5), oX3 sa K), (sa, .inl (cI, 32, .inl k)), ((r 6), oX6 tf tp V_14), (tf, oX0 G_15), (tp, oX2 (r 0) tf P_16)]) (by rw [eV_14, eG_15, eP_16]; rfl) rfl hl.1 rfl (Nat.le_of_ble_eq_true rfl) dX8_sumUpTrialsOf_61 ⟨Nat.le_refl _, Nat.le_refl _⟩ (fun H locs hP hD hS => ?_)
          exact J_11 V_14 (by subst eP_16; subst eG_15; subst eV_14; first | (simp only [if_neg c_13]; done) | rfl) G_15 (by subst eP_16; subst eG_15; subst eV_14; first | (simp only [if_neg c_13]; done) | rfl) P_16 (by subst eP_16; subst eG_15; subst eV_14; first | (simp only [if_neg c_13]; done) | rfl) _ _ hP hD hS _ (lv_sub hl [0, 1, 2, 3] rfl)
  exact Lx_5 ((K 1).toNatClampNeg + 1) 0 (U, V_1, G_2, P_3) (by omega) (Nat.zero_le _) rfl ((K 1) - 1) (by rw [Nat.sub_zero, ← hB_x_5]) _ _ hP hD hS _ (lv_sub hl [1, 2, 3, 0] rfl)

def bd_X8_sumUpTrials_39 (G : Nat → Int32) (S : Nat → Int32) (K : Nat → Int32) (k : Nat → Int32) (i_5 : Nat) (x_6 : (Nat → Int32) × (Nat → Int32) × (Nat → Int32) × (Nat → Int32)) : (Nat → Int32) × (Nat → Int32) × (Nat → Int32) × (Nat → Int32) :=
  (let U_7 : Nat → Int32 := ((sp_X8_sumUpTrialsOf G (x_6.1) S K k (x_6.2.1) (x_6.2.2.1) (x_6.2.2.2) (nI i_5) 0).1); (let V_8 : Nat → Int32 := ((sp_X8_sumUpTrialsOf G (x_6.1) S K k (x_6.2.1) (x_6.2.2.1) (x_6.2.2.2) (nI i_5) 0).2.1); (let E_9 : Nat → Int32 := ((sp_X8_sumUpTrialsOf G (x_6.1) S K k (x_6.2.1) (x_6.2.2.1) (x_6.2.2.2) (nI i_5) 0).2.2.1); (let B_10 : Nat → Int32 := ((sp_X8_sumUpTrialsOf G (x_6.1) S K k (x_6.2.1) (x_6.2.2.1) (x_6.2.2.2) (nI i_5) 0).2.2.2); (let U_11 : Nat → Int32 := ((sp_X8_sumUpTrialsOf G U_7 S K k V_8 E_9 B_10 (nI i_5) 1).1); (let V_12 : Nat → Int32 := ((sp_X8_sumUpTrialsOf G U_7 S K k V_8 E_9 B_10 (nI i_5) 1).2.1); (let E_13 : Nat → Int32 := ((sp_X8_sumUpTrialsOf G U_7 S K k V_8 E_9 B_10 (nI i_5) 1).2.2.1); (let B_14 : Nat → Int32 := ((sp_X8_sumUpTrialsOf G U_7 S K k V_8 E_9 B_10 (nI i_5) 1).2.2.2); (U_11, V_12, E_13, B_14)))))))))
def sp_X8_sumUpTrials (G : Nat → Int32) (U : Nat → Int32) (S : Nat → Int32) (K : Nat → Int32) (k : Nat → Int32) (V : Nat → Int32) (E : Nat → Int32) (B : Nat → Int32) : (Nat → Int32) × (Nat → Int32) × (Nat → Int32) × (Nat → Int32) :=
  let V_1 : Nat → Int32 := ((sp_X6_run V E B S K k 0 0 (K 1)).1)
  let G_2 : Nat → Int32 := ((sp_X6_run V E B S K k 0 0 (K 1)).2.1)
  let P_3 : Nat → Int32 := ((sp_X6_run V E B S K k 0 0 (K 1)).2.2)
  let U_4 : Nat → Int32 := (sp_X7_begin U (P_3 17))
  let x_6 : (Nat → Int32) × (Nat → Int32) × (Nat → Int32) × (Nat → Int32) := lp (bd_X8_sumUpTrials_39 G S K k) 9 (U_4, V_1, G_2, P_3)
  ((x_6.1), (x_6.2.1), (x_6.2.2.1), (x_6.2.2.2))
set_option maxRecDepth 100000 in
theorem sq_X8_sumUpTrials_1 (G : Nat → Int32) (U : Nat → Int32) (S : Nat → Int32) (K : Nat → Int32) (k : Nat → Int32) (V : Nat → Int32) (E : Nat → Int32) (B : Nat → Int32) (V_1 : Nat → Int32) (G_2 : Nat → Int32) (P_3 : Nat → Int32) (U_4 : Nat → Int32) (x_6 : (Nat → Int32) × (Nat → Int32) × (Nat → Int32) × (Nat → Int32)) (eV_1 : V_1 = ((sp_X6_run V E B S K k 0 0 (K 1)).1)) (eG_2 : G_2 = ((sp_X6_run V E B S K k 0 0 (K 1)).2.1)) (eP_3 : P_3 = ((sp_X6_run V E B S K k 0 0 (K 1)).2.2)) (eU_4 : U_4 = (sp_X7_begin U (P_3 17))) (ex_6 : x_6 = lp (bd_X8_sumUpTrials_39 G S K k) 9 (U_4, V_1, G_2, P_3)) : sp_X8_sumUpTrials G U S K k V E B = ((x_6.1), (x_6.2.1), (x_6.2.2.1), (x_6.2.2.2)) := by subst ex_6; subst eU_4; subst eP_3; subst eG_2; subst eV_1; rfl
set_option maxHeartbeats 4000000 in
set_option maxRecDepth 100000 in
theorem c_X8_sumUpTrials (l : Launch) (D : va_G) (cI cJ cO : ClassId) (h : Nat) (r : Nat → Nat) (sa : Nat) (tf : Nat) (tp : Nat) (G : Nat → Int32) (U : Nat → Int32) (S : Nat → Int32) (K : Nat → Int32) (k : Nat → Int32) (V : Nat → Int32) (E : Nat → Int32) (B : Nat → Int32) (hcnt : ¬ K 1 < 0) : MV l D (TY cI cJ cO) yX8_sumUpTrials wsX8_sumUpTrials (RM 6) [.ref h] [(h, oX8 r G), ((r 7), oX7 U), ((r 0), oX5 S), ((r 5), oX3 sa K), (sa, .inl (cI, 32, .inl k)), ((r 6), oX6 tf tp V), (tf, oX0 E), (tp, oX2 (r 0) tf B)] [(h, oX8 r G), ((r 7), oX7 ((sp_X8_sumUpTrials G U S K k V E B).1)), ((r 0), oX5 S), ((r 5), oX3 sa K), (sa, .inl (cI, 32, .inl k)), ((r 6), oX6 tf tp ((sp_X8_sumUpTrials G U S K k V E B).2.1)), (tf, oX0 ((sp_X8_sumUpTrials G U S K k V E B).2.2.1)), (tp, oX2 (r 0) tf ((sp_X8_sumUpTrials G U S K k V E B).2.2.2))] := by
  refine k_entV (cc := cX8_sumUpTrials) (maxL := 2) (lv := [(0, .ref h)]) (by decide +kernel) rfl (Nat.le_of_ble_eq_true rfl) rfl ?_
  intro p e s m below meth c A Q ls hx hb hml hts hown hA hS hP hD hK hN hl hret
  have hown : s.vm.findClass RX8 = some m.cls := hown
  have hi2 : ∀ w ∈ wsX20, w ∈ wsX8_sumUpTrials := fun w h => List.mem_cons_of_mem _ (List.mem_append_left _ (List.mem_append_left _ (List.mem_append_left _ (List.mem_append_right _ h))))
  have hi3 : ∀ w ∈ wsX30, w ∈ wsX8_sumUpTrials := fun w h => List.mem_cons_of_mem _ (List.mem_append_left _ (List.mem_append_left _ (List.mem_append_left _ (List.mem_append_left _ (List.mem_append_left _ (List.mem_append_right _ h))))))
  have hi6 : ∀ w ∈ wsX60, w ∈ wsX8_sumUpTrials := fun w h => List.mem_cons_of_mem _ (List.mem_append_left _ (List.mem_append_left _ (List.mem_append_left _ (List.mem_append_left _ (List.mem_append_right _ h)))))
  have hi8 : ∀ w ∈ wsX80, w ∈ wsX8_sumUpTrials := fun w h => List.mem_cons_of_mem _ (List.mem_append_left _ (List.mem_append_left _ (List.mem_append_left _ (List.mem_append_left _ (List.mem_append_left _ (List.mem_append_left _ (List.mem_append_right _ h)))))))
  have hf45 := hts (.fieldLink RX8 45 "PressGuard" "script" "LPressGuard$Script;") (by decide +kernel)
  have hf54 := hts (.fieldLink RX8 54 "PressGuard" "stuckTrial" "LPressGuard$Trial;") (by decide +kernel)
  have hf61 := hts (.fieldLink RX8 61 "PressGuard" "sums" "LPressGuard$TrialSums;") (by decide +kernel)
  have hf149 := hts (.fieldLink RX8 149 "PressGuard$Script" "count" "I") (by decide +kernel)
  have hf177 := hts (.fieldLink RX8 177 "PressGuard$Press" "rounds" "I") (by decide +kernel)
  have hf205 := hts (.fieldLink RX8 205 "PressGuard$Trial" "press" "LPressGuard$Press;") (by decide +kernel)
  refine lv_aload_n hx hb dX8_sumUpTrials_0 rfl (lv_at hl 0 rfl) ?_
  refine k_get hx hb hts hi8 hown hK hP 0 rfl rfl 6 (by decide) hf54 (.ref (r 6)) rfl dX8_sumUpTrials_1 ?_
  refine lv_aload_n hx hb dX8_sumUpTrials_4 rfl (lv_at hl 0 rfl) ?_
  refine k_get hx hb hts hi8 hown hK hP 0 rfl rfl 5 (by decide) hf45 (.ref (r 5)) rfl dX8_sumUpTrials_5 ?_
  refine lv_iconst (v := 0) hx hb dX8_sumUpTrials_8 (by decide +kernel) ?_
  refine lv_iconst (v := 0) hx hb dX8_sumUpTrials_9 (by decide +kernel) ?_
  refine lv_aload_n hx hb dX8_sumUpTrials_10 rfl (lv_at hl 0 rfl) ?_
  refine k_get hx hb hts hi8 hown hK hP 0 rfl rfl 5 (by decide) hf45 (.ref (r 5)) rfl dX8_sumUpTrials_11 ?_
  refine k_get hx hb hts hi3 hown hK hP 3 rfl rfl 1 (by decide) hf149 (.int (K 1)) rfl dX8_sumUpTrials_14 ?_
  obtain ⟨V_1, eV_1⟩ : ∃ q : Nat → Int32, q = ((sp_X6_run V E B S K k 0 0 (K 1)).1) := ⟨_, rfl⟩
  obtain ⟨G_2, eG_2⟩ : ∃ q : Nat → Int32, q = ((sp_X6_run V E B S K k 0 0 (K 1)).2.1) := ⟨_, rfl⟩
  obtain ⟨P_3, eP_3⟩ : ∃ q : Nat → Int32, q = ((sp_X6_run V E B S K k 0 0 (K 1)).2.2) := ⟨_, rfl⟩
  refine k_Vv ⟨hx, hb, hml, hown, hts⟩ (c_X6_run l D cI cJ cO (r 6) (r 5) tf tp (r 0) sa V E B S K k 0 0 (K 1) hcnt) (ci := 6) (q0 := 5) rfl rfl (cwV 4 hts gX8_sumUpTrials_X6_run rfl rfl rfl (by decide +kernel) ⟨Nat.le_of_ble_eq_true rfl, Nat.le_of_ble_eq_true rfl⟩) hK hN hP hD hS hA [5, 6, 7, 2, 3, 4] rfl rfl rfl (ws' := [(h, oX8 r G), ((r 7), oX7 U), ((r 0), oX5 S), ((r 5), oX3 sa K), (sa, .inl (cI, 32, .inl k)), ((r 6), oX6 tf tp V_1), (tf, oX0 G_2), (tp, oX2 (r 0) tf P_3)]) (by rw [eV_1, eG_2, eP_3]; rfl) rfl hl.1 rfl (Nat.le_of_ble_eq_true rfl) dX8_sumUpTrials_17 ⟨Nat.le_refl _, Nat.le_refl _⟩ (fun H locs hP hD hS => ?_)
  refine lv_aload_n hx hb dX8_sumUpTrials_20 rfl (lv_at hl 0 rfl) ?_
  refine k_get hx hb hts hi8 hown hK hP 0 rfl rfl 7 (by decide) hf61 (.ref (r 7)) rfl dX8_sumUpTrials_21 ?_
  refine lv_aload_n hx hb dX8_sumUpTrials_24 rfl (lv_at hl 0 rfl) ?_
  refine k_get hx hb hts hi8 hown hK hP 0 rfl rfl 6 (by decide) hf54 (.ref (r 6)) rfl dX8_sumUpTrials_25 ?_
  refine k_get hx hb hts hi6 hown hK hP 5 rfl rfl 1 (by decide) hf205 (.ref tp) rfl dX8_sumUpTrials_28 ?_
  refine k_get hx hb hts hi2 hown hK hP 7 rfl rfl 17 (by decide) hf177 (.int (P_3 17)) rfl dX8_sumUpTrials_31 ?_
  obtain ⟨U_4, eU_4⟩ : ∃ q : Nat → Int32, q = (sp_X7_begin U (P_3 17)) := ⟨_, rfl⟩
  refine k_Vv ⟨hx, hb, hml, hown, hts⟩ (c_X7_begin l D cI cJ cO (r 7) U (P_3 17)) (ci := 7) (q0 := 1) rfl rfl (cwV 1 hts gX8_sumUpTrials_X7_begin rfl rfl rfl (by decide +kernel) ⟨Nat.le_of_ble_eq_true rfl, Nat.le_of_ble_eq_true rfl⟩) hK hN hP hD hS hA [1] rfl rfl rfl (ws' := [(h, oX8 r G), ((r 7), oX7 U_4), ((r 0), oX5 S), ((r 5), oX3 sa K), (sa, .inl (cI, 32, .inl k)), ((r 6), oX6 tf tp V_1), (tf, oX0 G_2), (tp, oX2 (r 0) tf P_3)]) (by rw [eU_4]; rfl) rfl hl.1 rfl (Nat.le_of_ble_eq_true rfl) dX8_sumUpTrials_34 ⟨Nat.le_refl _, Nat.le_refl _⟩ (fun H locs hP hD hS => ?_)
  refine lv_iconst (v := 0) hx hb dX8_sumUpTrials_37 (by decide +kernel) ?_
  refine lv_istore_n (lv' := [(1, .int 0), (0, .ref h)]) hx hb dX8_sumUpTrials_38 rfl hl (by decide) rfl (fun ls hl => ?_)
  obtain ⟨fx_6, hfx_6⟩ : ∃ f : Nat → (Nat → Int32) × (Nat → Int32) × (Nat → Int32) × (Nat → Int32) → (Nat → Int32) × (Nat → Int32) × (Nat → Int32) × (Nat → Int32), f = (bd_X8_sumUpTrials_39 G S K k) := ⟨_, rfl⟩
  have hB_x_6 : (9 : Int32) = nI 9 := by decide +kernel
  have hN_x_6 : 9 < 2 ^ 31 := by decide
  have Lx_6 : ∀ (nn i_5 : Nat) (x_6 : (Nat → Int32) × (Nat → Int32) × (Nat → Int32) × (Nat → Int32)), 9 + 1 ≤ i_5 + nn → i_5 ≤ 9 → x_6 = lp fx_6 i_5 (U_4, V_1, G_2, P_3) → ∀ (H : Heap) (locs : List Loc), va_P D vwCl [(h, oX8 r G), ((r 7), oX7 (x_6.1)), ((r 0), oX5 S), ((r 5), oX3 sa K), (sa, .inl (cI, 32, .inl k)), ((r 6), oX6 tf tp (x_6.2.1)), (tf, oX0 (x_6.2.2.1)), (tp, oX2 (r 0) tf (x_6.2.2.2))] H → va_D A [(h, oX8 r G), ((r 7), oX7 (x_6.1)), ((r 0), oX5 S), ((r 5), oX3 sa K), (sa, .inl (cI, 32, .inl k)), ((r 6), oX6 tf tp (x_6.2.1)), (tf, oX0 (x_6.2.2.1)), (tp, oX2 (r 0) tf (x_6.2.2.2))] → va_S A s.heap H locs → ∀ ls : Array Slot, lv_has ls 2 [(0, .ref h), (1, .int (nI i_5))] → W p l e (RM 6) s m ([.ref h] : List Value).toArray below meth c H locs 0 0 Q (F0 m 39 ls []) := by
    intro nn_x_6
    induction nn_x_6 with
    | zero => intro i_5 x_6 h1 h2; exact absurd h1 (by omega)
    | succ nn_x_6 ih_x_6 =>
      intro i_5 x_6 hn_x_6 hi_i_5 ex_x_6 H locs hP hD hS ls hl
      refine lv_iload_n hx hb dX8_sumUpTrials_39 rfl (lv_at hl 1 rfl) ?_
      refine lv_bipush (v := 9) hx hb dX8_sumUpTrials_40 (by decide +kernel) ?_
      refine lv_icmp_ge (tgt := 63) hx hb dX8_sumUpTrials_42 (by decide) (fun c_7 => ?_) (fun c_7 => ?_)
      · skip
        have hq_x_6 : i_5 = 9 := k_eq hB_x_6 c_7 hi_i_5 hN_x_6
        have ex_6 : x_6 = lp (bd_X8_sumUpTrials_39 G S K k) 9 (U_4, V_1, G_2, P_3) := by rw [ex_x_6, hfx_6, hq_x_6]
        have hsp : sp_X8_sumUpTrials G U S K k V E B = ((x_6.1), (x_6.2.1), (x_6.2.2.1), (x_6.2.2.2)) := sq_X8_sumUpTrials_1 G U S K k V E B V_1 G_2 P_3 U_4 x_6 eV_1 eG_2 eP_3 eU_4 ex_6
        exact hret _ _ _ _ (by rw [hsp]; exact hP) hS dX8_sumUpTrials_63
      · skip
        have hlt_i_5 : i_5 < 9 := k_lt hB_x_6 c_7 hi_i_5 hN_x_6
        refine lv_aload_n hx hb dX8_sumUpTrials_45 rfl (lv_at hl 0 rfl) ?_
        refine lv_iload_n hx hb dX8_sumUpTrials_46 rfl (lv_at hl 1 rfl) ?_
        refine lv_iconst (v := 0) hx hb dX8_sumUpTrials_47 (by decide +kernel) ?_
        obtain ⟨U_8, eU_8⟩ : ∃ q : Nat → Int32, q = ((sp_X8_sumUpTrialsOf G (x_6.1) S K k (x_6.2.1) (x_6.2.2.1) (x_6.2.2.2) (nI i_5) 0).1) := ⟨_, rfl⟩
        obtain ⟨V_9, eV_9⟩ : ∃ q : Nat → Int32, q = ((sp_X8_sumUpTrialsOf G (x_6.1) S K k (x_6.2.1) (x_6.2.2.1) (x_6.2.2.2) (nI i_5) 0).2.1) := ⟨_, rfl⟩
        obtain ⟨E_10, eE_10⟩ : ∃ q : Nat → Int32, q = ((sp_X8_sumUpTrialsOf G (x_6.1) S K k (x_6.2.1) (x_6.2.2.1) (x_6.2.2.2) (nI i_5) 0).2.2.1) := ⟨_, rfl⟩
        obtain ⟨B_11, eB_11⟩ : ∃ q : Nat → Int32, q = ((sp_X8_sumUpTrialsOf G (x_6.1) S K k (x_6.2.1) (x_6.2.2.1) (x_6.2.2.2) (nI i_5) 0).2.2.2) := ⟨_, rfl⟩
        refine k_Vv ⟨hx, hb, hml, hown, hts⟩ (c_X8_sumUpTrialsOf l D cI cJ cO h r sa tf tp G (x_6.1) S K k (x_6.2.1) (x_6.2.2.1) (x_6.2.2.2) (nI i_5) 0 hcnt) (ci := 8) (q0 := 0) rfl rfl (cwV 2 hts gX8_sumUpTrials_X8_sumUpTrialsOf rfl rfl rfl (by decide +kernel) ⟨Nat.le_of_ble_eq_true rfl, Nat.le_of_ble_eq_true rfl⟩) hK hN hP hD hS hA [0, 1, 2, 3, 4, 5, 6, 7] rfl rfl rfl (ws' := [(h, oX8 r G), ((r 7), oX7 U_8), ((r 0), oX5 S), ((r 5), oX3 sa K), (sa, .inl (cI, 32, .inl k)), ((r 6), oX6 tf tp V_9), (tf, oX0 E_10), (tp, oX2 (r 0) tf B_11)]) (by rw [eU_8, eV_9, eE_10, eB_11]; rfl) rfl hl.1 rfl (Nat.le_of_ble_eq_true rfl) dX8_sumUpTrials_48 ⟨Nat.le_refl _, Nat.le_refl _⟩ (fun H locs hP hD hS => ?_)
        refine lv_aload_n hx hb dX8_sumUpTrials_51 rfl (lv_at hl 0 rfl) ?_
        refine lv_iload_n hx hb dX8_sumUpTrials_52 rfl (lv_at hl 1 rfl) ?_
        refine lv_iconst (v := 1) hx hb dX8_sumUpTrials_53 (by decide +kernel) ?_
        obtain ⟨U_12, eU_12⟩ : ∃ q : Nat → Int32, q = ((sp_X8_sumUpTrialsOf G U_8 S K k V_9 E_10 B_11 (nI i_5) 1).1) := ⟨_, rfl⟩
        obtain ⟨V_13, eV_13⟩ : ∃ q : Nat → Int32, q = ((sp_X8_sumUpTrialsOf G U_8 S K k V_9 E_10 B_11 (nI i_5) 1).2.1) := ⟨_, rfl⟩
        obtain ⟨E_14, eE_14⟩ : ∃ q : Nat → Int32, q = ((sp_X8_sumUpTrialsOf G U_8 S K k V_9 E_10 B_11 (nI i_5) 1).2.2.1) := ⟨_, rfl⟩
        obtain ⟨B_15, eB_15⟩ : ∃ q : Nat → Int32, q = ((sp_X8_sumUpTrialsOf G U_8 S K k V_9 E_10 B_11 (nI i_5) 1).2.2.2) := ⟨_, rfl⟩
        refine k_Vv ⟨hx, hb, hml, hown, hts⟩ (c_X8_sumUpTrialsOf l D cI cJ cO h r sa tf tp G U_8 S K k V_9 E_10 B_11 (nI i_5) 1 hcnt) (ci := 8) (q0 := 0) rfl rfl (cwV 2 hts gX8_sumUpTrials_X8_sumUpTrialsOf rfl rfl rfl (by decide +kernel) ⟨Nat.le_of_ble_eq_true rfl, Nat.le_of_ble_eq_true rfl⟩) hK hN hP hD hS hA [0, 1, 2, 3, 4, 5, 6, 7] rfl rfl rfl (ws' := [(h, oX8 r G), ((r 7), oX7 U_12), ((r 0), oX5 S), ((r 5), oX3 sa K), (sa, .inl (cI, 32, .inl k)), ((r 6), oX6 tf tp V_13), (tf, oX0 E_14), (tp, oX2 (r 0) tf B_15)]) (by rw [eU_12, eV_13, eE_14, eB_15]; rfl) rfl hl.1 rfl (Nat.le_of_ble_eq_true rfl) dX8_sumUpTrials_54 ⟨Nat.le_refl _, Nat.le_refl _⟩ (fun H locs hP hD hS => ?_)
        refine lv_iinc (v := (nI (i_5 + 1))) (lv' := [(1, .int (nI (i_5 + 1))), (0, .ref h)]) hx hb dX8_sumUpTrials_57 hl (k := 1) rfl (nI_1 i_5) (by decide) rfl (fun ls hl => ?_)
        refine lv_goto (tgt := 39) hx hb dX8_sumUpTrials_60 (by decide) ?_
        exact ih_x_6 (i_5 + 1) (U_12, V_13, E_14, B_15) (by omega) (by omega) (by subst eB_15; subst eE_14; subst eV_13; subst eU_12; subst eB_11; subst eE_10; subst eV_9; subst eU_8; rw [show lp fx_6 (i_5 + 1) (U_4, V_1, G_2, P_3) = fx_6 i_5 (lp fx_6 i_5 (U_4, V_1, G_2, P_3)) from rfl, ← ex_x_6, hfx_6]; try (first | (rfl; done) | rfl)) _ _ hP hD hS _ (lv_sub hl [1, 0] rfl)
  exact Lx_6 (9 + 1) 0 (U_4, V_1, G_2, P_3) (by omega) (Nat.zero_le _) rfl _ _ hP hD hS _ (lv_sub hl [1, 0] rfl)

def sp_X8_trials (G : Nat → Int32) (U : Nat → Int32) (S : Nat → Int32) (K : Nat → Int32) (k : Nat → Int32) (V : Nat → Int32) (E : Nat → Int32) (B : Nat → Int32) (what : Int32) : Int32 × (Nat → Int32) × (Nat → Int32) × (Nat → Int32) × (Nat → Int32) × (Nat → Int32) :=
  (if (sp_X8_within what 0 5) = 0 then
    ((-2), G, U, V, E, B)
  else
    let z_2 : Nat → Int32 := (if (G 9) = 0 then (upd G 9 1) else G)
    let z_3 : Nat → Int32 := (if (G 9) = 0 then (let U_2 : Nat → Int32 := ((sp_X8_sumUpTrials G U S K k V E B).1); U_2) else U)
    let z_4 : Nat → Int32 := (if (G 9) = 0 then (let V_3 : Nat → Int32 := ((sp_X8_sumUpTrials G U S K k V E B).2.1); V_3) else V)
    let z_5 : Nat → Int32 := (if (G 9) = 0 then (let E_4 : Nat → Int32 := ((sp_X8_sumUpTrials G U S K k V E B).2.2.1); E_4) else E)
    let z_6 : Nat → Int32 := (if (G 9) = 0 then (let B_5 : Nat → Int32 := ((sp_X8_sumUpTrials G U S K k V E B).2.2.2); B_5) else B)
    ((sp_X7_part z_3 what), z_2, z_3, z_4, z_5, z_6))
set_option maxRecDepth 100000 in
theorem sq_X8_trials_1 (G : Nat → Int32) (U : Nat → Int32) (S : Nat → Int32) (K : Nat → Int32) (k : Nat → Int32) (V : Nat → Int32) (E : Nat → Int32) (B : Nat → Int32) (what : Int32) (z_2 : Nat → Int32) (z_3 : Nat → Int32) (z_4 : Nat → Int32) (z_5 : Nat → Int32) (z_6 : Nat → Int32) (ez_2 : z_2 = (if (G 9) = 0 then (upd G 9 1) else G)) (ez_3 : z_3 = (if (G 9) = 0 then (let U_2 : Nat → Int32 := ((sp_X8_sumUpTrials G U S K k V E B).1); U_2) else U)) (ez_4 : z_4 = (if (G 9) = 0 then (let V_3 : Nat → Int32 := ((sp_X8_sumUpTrials G U S K k V E B).2.1); V_3) else V)) (ez_5 : z_5 = (if (G 9) = 0 then (let E_4 : Nat → Int32 := ((sp_X8_sumUpTrials G U S K k V E B).2.2.1); E_4) else E)) (ez_6 : z_6 = (if (G 9) = 0 then (let B_5 : Nat → Int32 := ((sp_X8_sumUpTrials G U S K k V E B).2.2.2); B_5) else B)) (c_1 : ¬ ((sp_X8_within what 0 5) = 0)) : sp_X8_trials G U S K k V E B what = ((sp_X7_part z_3 what), z_2, z_3, z_4, z_5, z_6) := by subst ez_6; subst ez_5; subst ez_4; subst ez_3; subst ez_2; simp only [sp_X8_trials, if_neg c_1]
set_option maxHeartbeats 4000000 in
set_option maxRecDepth 100000 in
theorem c_X8_trials (l : Launch) (D : va_G) (cI cJ cO : ClassId) (h : Nat) (r : Nat → Nat) (sa : Nat) (tf : Nat) (tp : Nat) (G : Nat → Int32) (U : Nat → Int32) (S : Nat → Int32) (K : Nat → Int32) (k : Nat → Int32) (V : Nat → Int32) (E : Nat → Int32) (B : Nat → Int32) (what : Int32) (hcnt : ¬ K 1 < 0) : MI l D (TY cI cJ cO) yX8_trials wsX8_trials (RM 7) [.ref h, .int what] [(h, oX8 r G), ((r 7), oX7 U), ((r 0), oX5 S), ((r 5), oX3 sa K), (sa, .inl (cI, 32, .inl k)), ((r 6), oX6 tf tp V), (tf, oX0 E), (tp, oX2 (r 0) tf B)] ((sp_X8_trials G U S K k V E B what).1) [(h, oX8 r ((sp_X8_trials G U S K k V E B what).2.1)), ((r 7), oX7 ((sp_X8_trials G U S K k V E B what).2.2.1)), ((r 0), oX5 S), ((r 5), oX3 sa K), (sa, .inl (cI, 32, .inl k)), ((r 6), oX6 tf tp ((sp_X8_trials G U S K k V E B what).2.2.2.1)), (tf, oX0 ((sp_X8_trials G U S K k V E B what).2.2.2.2.1)), (tp, oX2 (r 0) tf ((sp_X8_trials G U S K k V E B what).2.2.2.2.2))] := by
  refine k_entI (cc := cX8_trials) (maxL := 2) (lv := [(0, .ref h), (1, .int what)]) (by decide +kernel) rfl (Nat.le_of_ble_eq_true rfl) rfl ?_
  intro p e s m below meth c A Q ls hx hb hml hts hown hA hS hP hD hK hN hl hret
  have hown : s.vm.findClass RX8 = some m.cls := hown
  have hi8 : ∀ w ∈ wsX80, w ∈ wsX8_trials := fun w h => List.mem_cons_of_mem _ (List.mem_append_left _ (List.mem_append_left _ (List.mem_append_left _ (List.mem_append_left _ (List.mem_append_left _ (List.mem_append_left _ (List.mem_append_right _ h)))))))
  have hf61 := hts (.fieldLink RX8 61 "PressGuard" "sums" "LPressGuard$TrialSums;") (by decide +kernel)
  have hf72 := hts (.fieldLink RX8 72 "PressGuard" "sumsHold" "Z") (by decide +kernel)
  refine lv_iload_n hx hb dX8_trials_0 rfl (lv_at hl 1 rfl) ?_
  refine lv_iconst (v := 0) hx hb dX8_trials_1 (by decide +kernel) ?_
  refine lv_iconst (v := 5) hx hb dX8_trials_2 (by decide +kernel) ?_
  refine k_Si ⟨hx, hb, hml, hown, hts⟩ (c_X8_within l D cI cJ cO what 0 5) (va_cwS 3 hts gX8_trials_X8_within rfl rfl rfl (by decide +kernel) ⟨Nat.le_of_ble_eq_true rfl, Nat.le_of_ble_eq_true rfl⟩) hK hN hP hD hS hA [] rfl rfl rfl (ws' := [(h, oX8 r G), ((r 7), oX7 U), ((r 0), oX5 S), ((r 5), oX3 sa K), (sa, .inl (cI, 32, .inl k)), ((r 6), oX6 tf tp V), (tf, oX0 E), (tp, oX2 (r 0) tf B)]) rfl rfl hl.1 rfl (Nat.le_of_ble_eq_true rfl) dX8_trials_3 ⟨Nat.le_refl _, Nat.le_refl _⟩ (fun H locs hP hD hS => ?_)
  refine lv_if_ne (tgt := 12) hx hb dX8_trials_6 (by decide) (fun c_1 => ?_) (fun c_1 => ?_)
  · skip
    refine lv_aload_n hx hb dX8_trials_12 rfl (lv_at hl 0 rfl) ?_
    refine k_get hx hb hts hi8 hown hK hP 0 rfl rfl 9 (by decide) hf72 (.int (G 9)) rfl dX8_trials_13 ?_
    have J_7 : ∀ z_2 : Nat → Int32, z_2 = (if (G 9) = 0 then (upd G 9 1) else G) → ∀ z_3 : Nat → Int32, z_3 = (if (G 9) = 0 then (let U_2 : Nat → Int32 := ((sp_X8_sumUpTrials G U S K k V E B).1); U_2) else U) → ∀ z_4 : Nat → Int32, z_4 = (if (G 9) = 0 then (let V_3 : Nat → Int32 := ((sp_X8_sumUpTrials G U S K k V E B).2.1); V_3) else V) → ∀ z_5 : Nat → Int32, z_5 = (if (G 9) = 0 then (let E_4 : Nat → Int32 := ((sp_X8_sumUpTrials G U S K k V E B).2.2.1); E_4) else E) → ∀ z_6 : Nat → Int32, z_6 = (if (G 9) = 0 then (let B_5 : Nat → Int32 := ((sp_X8_sumUpTrials G U S K k V E B).2.2.2); B_5) else B) → ∀ (H : Heap) (locs : List Loc), va_P D vwCl [(h, oX8 r z_2), ((r 7), oX7 z_3), ((r 0), oX5 S), ((r 5), oX3 sa K), (sa, .inl (cI, 32, .inl k)), ((r 6), oX6 tf tp z_4), (tf, oX0 z_5), (tp, oX2 (r 0) tf z_6)] H → va_D A [(h, oX8 r z_2), ((r 7), oX7 z_3), ((r 0), oX5 S), ((r 5), oX3 sa K), (sa, .inl (cI, 32, .inl k)), ((r 6), oX6 tf tp z_4), (tf, oX0 z_5), (tp, oX2 (r 0) tf z_6)] → va_S A s.heap H locs → ∀ ls : Array Slot, lv_has ls 2 [(0, .ref h), (1, .int what)] → W p l e (RM 7) s m ([.ref h, .int what] : List Value).toArray below meth c H locs 0 0 Q (F0 m 28 ls []) := by
      intro z_2 ez_2 z_3 ez_3 z_4 ez_4 z_5 ez_5 z_6 ez_6 H locs hP hD hS ls hl
      refine lv_aload_n hx hb dX8_trials_28 rfl (lv_at hl 0 rfl) ?_
      refine k_get hx hb hts hi8 hown hK hP 0 rfl rfl 7 (by decide) hf61 (.ref (r 7)) rfl dX8_trials_29 ?_
      refine lv_iload_n hx hb dX8_trials_32 rfl (lv_at hl 1 rfl) ?_
      refine k_Vi ⟨hx, hb, hml, hown, hts⟩ (c_X7_part l D cI cJ cO (r 7) z_3 what) (ci := 7) (q0 := 1) rfl rfl (cwV 1 hts gX8_trials_X7_part rfl rfl rfl (by decide +kernel) ⟨Nat.le_of_ble_eq_true rfl, Nat.le_of_ble_eq_true rfl⟩) hK hN hP hD hS hA [1] rfl rfl rfl (ws' := [(h, oX8 r z_2), ((r 7), oX7 z_3), ((r 0), oX5 S), ((r 5), oX3 sa K), (sa, .inl (cI, 32, .inl k)), ((r 6), oX6 tf tp z_4), (tf, oX0 z_5), (tp, oX2 (r 0) tf z_6)]) rfl rfl hl.1 rfl (Nat.le_of_ble_eq_true rfl) dX8_trials_33 ⟨Nat.le_refl _, Nat.le_refl _⟩ (fun H locs hP hD hS => ?_)
      have hsp : sp_X8_trials G U S K k V E B what = ((sp_X7_part z_3 what), z_2, z_3, z_4, z_5, z_6) := sq_X8_trials_1 G U S K k V E B what z_2 z_3 z_4 z_5 z_6 ez_2 ez_3 ez_4 ez_5 ez_6 c_1
      exact hret _ _ _ _ _ (by rw [hsp]) rfl (by rw [hsp]; exact hP) hS dX8_trials_36
    refine lv_if_ne (tgt := 28) hx hb dX8_trials_16 (by decide) (fun c_8 => ?_) (fun c_8 => ?_)
    · skip
      exact J_7 G (by first | (simp only [if_neg c_8]; done) | rfl) U (by first | (simp only [if_neg c_8]; done) | rfl) V (by first | (simp only [if_neg c_8]; done) | rfl) E (by first | (simp only [if_neg c_8]; done) | rfl) B (by first | (simp only [if_neg c_8]; done) | rfl) _ _ hP hD hS _ (lv_sub hl [0, 1] rfl)
    · skip
      refine lv_aload_n hx hb dX8_trials_19 rfl (lv_at hl 0 rfl) ?_
      obtain ⟨U_9, eU_9⟩ : ∃ q : Nat → Int32, q = ((sp_X8_sumUpTrials G U S K k V E B).1) := ⟨_, rfl⟩
      obtain ⟨V_10, eV_10⟩ : ∃ q : Nat → Int32, q = ((sp_X8_sumUpTrials G U S K k V E B).2.1) := ⟨_, rfl⟩
      obtain ⟨E_11, eE_11⟩ : ∃ q : Nat → Int32, q = ((sp_X8_sumUpTrials G U S K k V E B).2.2.1) := ⟨_, rfl⟩
      obtain ⟨B_12, eB_12⟩ : ∃ q : Nat → Int32, q = ((sp_X8_sumUpTrials G U S K k V E B).2.2.2) := ⟨_, rfl⟩
      refine k_Vv ⟨hx, hb, hml, hown, hts⟩ (c_X8_sumUpTrials l D cI cJ cO h r sa tf tp G U S K k V E B hcnt) (ci := 8) (q0 := 0) rfl rfl (cwV 0 hts gX8_trials_X8_sumUpTrials rfl rfl rfl (by decide +kernel) ⟨Nat.le_of_ble_eq_true rfl, Nat.le_of_ble_eq_true rfl⟩) hK hN hP hD hS hA [0, 1, 2, 3, 4, 5, 6, 7] rfl rfl rfl (ws' := [(h, oX8 r G), ((r 7), oX7 U_9), ((r 0), oX5 S), ((r 5), oX3 sa K), (sa, .inl (cI, 32, .inl k)), ((r 6), oX6 tf tp V_10), (tf, oX0 E_11), (tp, oX2 (r 0) tf B_12)]) (by rw [eU_9, eV_10, eE_11, eB_12]; rfl) rfl hl.1 rfl (Nat.le_of_ble_eq_true rfl) dX8_trials_20 ⟨Nat.le_refl _, Nat.le_refl _⟩ (fun H locs hP hD hS => ?_)
      refine lv_aload_n hx hb dX8_trials_23 rfl (lv_at hl 0 rfl) ?_
      refine lv_iconst (v := 1) hx hb dX8_trials_24 (by decide +kernel) ?_
      refine k_put hx hb hts hi8 tyX8_ok nmX8 hown hK hP hD hS 0 rfl rfl 9 (by decide) hf72 rfl (.int 1) rfl rfl (Nat.le_of_ble_eq_true rfl) (ws' := [(h, oX8 r (upd G 9 1)), ((r 7), oX7 U_9), ((r 0), oX5 S), ((r 5), oX3 sa K), (sa, .inl (cI, 32, .inl k)), ((r 6), oX6 tf tp V_10), (tf, oX0 E_11), (tp, oX2 (r 0) tf B_12)]) rfl dX8_trials_25 (fun H locs hP hD hS => ?_)
      exact J_7 (upd G 9 1) (by subst eB_12; subst eE_11; subst eV_10; subst eU_9; first | (simp only [if_pos c_8]; done) | rfl) U_9 (by subst eB_12; subst eE_11; subst eV_10; subst eU_9; first | (simp only [if_pos c_8]; done) | rfl) V_10 (by subst eB_12; subst eE_11; subst eV_10; subst eU_9; first | (simp only [if_pos c_8]; done) | rfl) E_11 (by subst eB_12; subst eE_11; subst eV_10; subst eU_9; first | (simp only [if_pos c_8]; done) | rfl) B_12 (by subst eB_12; subst eE_11; subst eV_10; subst eU_9; first | (simp only [if_pos c_8]; done) | rfl) _ _ hP hD hS _ (lv_sub hl [0, 1] rfl)
  · skip
    refine lv_bipush (v := (-2)) hx hb dX8_trials_9 (by decide +kernel) ?_
    have hsp : sp_X8_trials G U S K k V E B what = ((-2), G, U, V, E, B) := by simp only [sp_X8_trials, if_pos c_1]
    exact hret _ _ _ _ _ (by rw [hsp]) rfl (by rw [hsp]; exact hP) hS dX8_trials_11

def sp_X8_many (G : Nat → Int32) (F : Nat → Int32) (P : Nat → Int32) (K : Nat → Int32) (N : Nat → Int32) (what : Int32) : Int32 :=
  (if what = 0 then
    (N 6)
  else
    (if what = 1 then
      (P 16)
    else
      (if what = 2 then
        (P 17)
      else
        (if what = 3 then
          (K 1)
        else
          (if what = 4 then
            (sp_J6_bitCount_0f7a4 ((F 0) ||| (F 1)))
          else
            (if what = 5 then
              (sp_X0_valvesStuck F)
            else
              (if what = 6 then
                (N 5)
              else
                (-2))))))))
set_option maxHeartbeats 4000000 in
set_option maxRecDepth 100000 in
theorem c_X8_many (l : Launch) (D : va_G) (cI cJ cO : ClassId) (h : Nat) (r : Nat → Nat) (sa : Nat) (na : Nat) (nb : Nat) (nc : Nat) (G : Nat → Int32) (F : Nat → Int32) (P : Nat → Int32) (K : Nat → Int32) (N : Nat → Int32) (what : Int32)  : MI l D (TY cI cJ cO) yX8_many wsX8_many (RM 1) [.ref h, .int what] [(h, oX8 r G), ((r 1), oX0 F), ((r 2), oX2 (r 0) (r 1) P), ((r 5), oX3 sa K), ((r 4), oX1 na nb nc N)] (sp_X8_many G F P K N what) [(h, oX8 r G), ((r 1), oX0 F), ((r 2), oX2 (r 0) (r 1) P), ((r 5), oX3 sa K), ((r 4), oX1 na nb nc N)] := by
  refine k_entI (cc := cX8_many) (maxL := 2) (lv := [(0, .ref h), (1, .int what)]) (by decide +kernel) rfl (Nat.le_of_ble_eq_true rfl) rfl ?_
  intro p e s m below meth c A Q ls hx hb hml hts hown hA hS hP hD hK hN hl hret
  have hown : s.vm.findClass RX8 = some m.cls := hown
  have hi0 : ∀ w ∈ wsX00, w ∈ wsX8_many := fun w h => List.mem_cons_of_mem _ (List.mem_append_right _ h)
  have hi1 : ∀ w ∈ wsX10, w ∈ wsX8_many := fun w h => List.mem_cons_of_mem _ (List.mem_append_left _ (List.mem_append_left _ (List.mem_append_left _ (List.mem_append_right _ h))))
  have hi2 : ∀ w ∈ wsX20, w ∈ wsX8_many := fun w h => List.mem_cons_of_mem _ (List.mem_append_left _ (List.mem_append_left _ (List.mem_append_right _ h)))
  have hi3 : ∀ w ∈ wsX30, w ∈ wsX8_many := fun w h => List.mem_cons_of_mem _ (List.mem_append_left _ (List.mem_append_right _ h))
  have hi8 : ∀ w ∈ wsX80, w ∈ wsX8_many := fun w h => List.mem_cons_of_mem _ (List.mem_append_left _ (List.mem_append_left _ (List.mem_append_left _ (List.mem_append_left _ (List.mem_append_right _ h)))))
  have hf19 := hts (.fieldLink RX8 19 "PressGuard" "faults" "LPressGuard$Faults;") (by decide +kernel)
  have hf28 := hts (.fieldLink RX8 28 "PressGuard" "press" "LPressGuard$Press;") (by decide +kernel)
  have hf38 := hts (.fieldLink RX8 38 "PressGuard" "notes" "LPressGuard$Notes;") (by decide +kernel)
  have hf45 := hts (.fieldLink RX8 45 "PressGuard" "script" "LPressGuard$Script;") (by decide +kernel)
  have hf149 := hts (.fieldLink RX8 149 "PressGuard$Script" "count" "I") (by decide +kernel)
  have hf171 := hts (.fieldLink RX8 171 "PressGuard$Notes" "tickCount" "I") (by decide +kernel)
  have hf174 := hts (.fieldLink RX8 174 "PressGuard$Press" "dangers" "I") (by decide +kernel)
  have hf177 := hts (.fieldLink RX8 177 "PressGuard$Press" "rounds" "I") (by decide +kernel)
  have hf180 := hts (.fieldLink RX8 180 "PressGuard$Faults" "stuckOff" "I") (by decide +kernel)
  have hf183 := hts (.fieldLink RX8 183 "PressGuard$Faults" "stuckOn" "I") (by decide +kernel)
  have hf190 := hts (.fieldLink RX8 190 "PressGuard$Notes" "lockCount" "I") (by decide +kernel)
  refine lv_iload_n hx hb dX8_many_0 rfl (lv_at hl 1 rfl) ?_
  by_cases c_1 : what = 0
  · refine lv_tableIn (off := 43) (tgt := 44) hx hb dX8_many_1 (by rw [c_1]; decide) (by rw [c_1]; decide) (by rw [c_1]; rfl) (by decide) ?_
    refine lv_aload_n hx hb dX8_many_44 rfl (lv_at hl 0 rfl) ?_
    refine k_get hx hb hts hi8 hown hK hP 0 rfl rfl 4 (by decide) hf38 (.ref (r 4)) rfl dX8_many_45 ?_
    refine k_get hx hb hts hi1 hown hK hP 4 rfl rfl 6 (by decide) hf171 (.int (N 6)) rfl dX8_many_48 ?_
    have hsp : sp_X8_many G F P K N what = (N 6) := by simp only [sp_X8_many, if_pos c_1]
    exact hret _ _ _ _ _ (by rw [hsp]) rfl hP hS dX8_many_51
  by_cases c_2 : what = 1
  · refine lv_tableIn (off := 51) (tgt := 52) hx hb dX8_many_1 (by rw [c_2]; decide) (by rw [c_2]; decide) (by rw [c_2]; rfl) (by decide) ?_
    refine lv_aload_n hx hb dX8_many_52 rfl (lv_at hl 0 rfl) ?_
    refine k_get hx hb hts hi8 hown hK hP 0 rfl rfl 2 (by decide) hf28 (.ref (r 2)) rfl dX8_many_53 ?_
    refine k_get hx hb hts hi2 hown hK hP 2 rfl rfl 16 (by decide) hf174 (.int (P 16)) rfl dX8_many_56 ?_
    have hsp : sp_X8_many G F P K N what = (P 16) := by simp only [sp_X8_many, if_neg c_1, if_pos c_2]
    exact hret _ _ _ _ _ (by rw [hsp]) rfl hP hS dX8_many_59
  by_cases c_3 : what = 2
  · refine lv_tableIn (off := 59) (tgt := 60) hx hb dX8_many_1 (by rw [c_3]; decide) (by rw [c_3]; decide) (by rw [c_3]; rfl) (by decide) ?_
    refine lv_aload_n hx hb dX8_many_60 rfl (lv_at hl 0 rfl) ?_
    refine k_get hx hb hts hi8 hown hK hP 0 rfl rfl 2 (by decide) hf28 (.ref (r 2)) rfl dX8_many_61 ?_
    refine k_get hx hb hts hi2 hown hK hP 2 rfl rfl 17 (by decide) hf177 (.int (P 17)) rfl dX8_many_64 ?_
    have hsp : sp_X8_many G F P K N what = (P 17) := by simp only [sp_X8_many, if_neg c_1, if_neg c_2, if_pos c_3]
    exact hret _ _ _ _ _ (by rw [hsp]) rfl hP hS dX8_many_67
  by_cases c_4 : what = 3
  · refine lv_tableIn (off := 67) (tgt := 68) hx hb dX8_many_1 (by rw [c_4]; decide) (by rw [c_4]; decide) (by rw [c_4]; rfl) (by decide) ?_
    refine lv_aload_n hx hb dX8_many_68 rfl (lv_at hl 0 rfl) ?_
    refine k_get hx hb hts hi8 hown hK hP 0 rfl rfl 5 (by decide) hf45 (.ref (r 5)) rfl dX8_many_69 ?_
    refine k_get hx hb hts hi3 hown hK hP 3 rfl rfl 1 (by decide) hf149 (.int (K 1)) rfl dX8_many_72 ?_
    have hsp : sp_X8_many G F P K N what = (K 1) := by simp only [sp_X8_many, if_neg c_1, if_neg c_2, if_neg c_3, if_pos c_4]
    exact hret _ _ _ _ _ (by rw [hsp]) rfl hP hS dX8_many_75
  by_cases c_5 : what = 4
  · refine lv_tableIn (off := 75) (tgt := 76) hx hb dX8_many_1 (by rw [c_5]; decide) (by rw [c_5]; decide) (by rw [c_5]; rfl) (by decide) ?_
    refine lv_aload_n hx hb dX8_many_76 rfl (lv_at hl 0 rfl) ?_
    refine k_get hx hb hts hi8 hown hK hP 0 rfl rfl 1 (by decide) hf19 (.ref (r 1)) rfl dX8_many_77 ?_
    refine k_get hx hb hts hi0 hown hK hP 1 rfl rfl 0 (by decide) hf180 (.int (F 0)) rfl dX8_many_80 ?_
    refine lv_aload_n hx hb dX8_many_83 rfl (lv_at hl 0 rfl) ?_
    refine k_get hx hb hts hi8 hown hK hP 0 rfl rfl 1 (by decide) hf19 (.ref (r 1)) rfl dX8_many_84 ?_
    refine k_get hx hb hts hi0 hown hK hP 1 rfl rfl 1 (by decide) hf183 (.int (F 1)) rfl dX8_many_87 ?_
    refine lv_ior hx hb dX8_many_90 ?_
    refine k_Si ⟨hx, hb, hml, hown, hts⟩ (c_J6_bitCount_0f7a4 l D cI cJ cO ((F 0) ||| (F 1))) (va_cwS 1 hts gX8_many_J6_bitCount_0f7a4 rfl rfl rfl (by decide +kernel) ⟨Nat.le_of_ble_eq_true rfl, Nat.le_of_ble_eq_true rfl⟩) hK hN hP hD hS hA [] rfl rfl rfl (ws' := [(h, oX8 r G), ((r 1), oX0 F), ((r 2), oX2 (r 0) (r 1) P), ((r 5), oX3 sa K), ((r 4), oX1 na nb nc N)]) rfl rfl hl.1 rfl (Nat.le_of_ble_eq_true rfl) dX8_many_91 ⟨Nat.le_refl _, Nat.le_refl _⟩ (fun H locs hP hD hS => ?_)
    have hsp : sp_X8_many G F P K N what = (sp_J6_bitCount_0f7a4 ((F 0) ||| (F 1))) := by simp only [sp_X8_many, if_neg c_1, if_neg c_2, if_neg c_3, if_neg c_4, if_pos c_5]
    exact hret _ _ _ _ _ (by rw [hsp]) rfl hP hS dX8_many_94
  by_cases c_6 : what = 5
  · refine lv_tableIn (off := 94) (tgt := 95) hx hb dX8_many_1 (by rw [c_6]; decide) (by rw [c_6]; decide) (by rw [c_6]; rfl) (by decide) ?_
    refine lv_aload_n hx hb dX8_many_95 rfl (lv_at hl 0 rfl) ?_
    refine k_get hx hb hts hi8 hown hK hP 0 rfl rfl 1 (by decide) hf19 (.ref (r 1)) rfl dX8_many_96 ?_
    refine k_Vi ⟨hx, hb, hml, hown, hts⟩ (c_X0_valvesStuck l D cI cJ cO (r 1) F) (ci := 0) (q0 := 1) rfl rfl (cwV 0 hts gX8_many_X0_valvesStuck rfl rfl rfl (by decide +kernel) ⟨Nat.le_of_ble_eq_true rfl, Nat.le_of_ble_eq_true rfl⟩) hK hN hP hD hS hA [1] rfl rfl rfl (ws' := [(h, oX8 r G), ((r 1), oX0 F), ((r 2), oX2 (r 0) (r 1) P), ((r 5), oX3 sa K), ((r 4), oX1 na nb nc N)]) rfl rfl hl.1 rfl (Nat.le_of_ble_eq_true rfl) dX8_many_99 ⟨Nat.le_refl _, Nat.le_refl _⟩ (fun H locs hP hD hS => ?_)
    have hsp : sp_X8_many G F P K N what = (sp_X0_valvesStuck F) := by simp only [sp_X8_many, if_neg c_1, if_neg c_2, if_neg c_3, if_neg c_4, if_neg c_5, if_pos c_6]
    exact hret _ _ _ _ _ (by rw [hsp]) rfl hP hS dX8_many_102
  by_cases c_7 : what = 6
  · refine lv_tableIn (off := 102) (tgt := 103) hx hb dX8_many_1 (by rw [c_7]; decide) (by rw [c_7]; decide) (by rw [c_7]; rfl) (by decide) ?_
    refine lv_aload_n hx hb dX8_many_103 rfl (lv_at hl 0 rfl) ?_
    refine k_get hx hb hts hi8 hown hK hP 0 rfl rfl 4 (by decide) hf38 (.ref (r 4)) rfl dX8_many_104 ?_
    refine k_get hx hb hts hi1 hown hK hP 4 rfl rfl 5 (by decide) hf190 (.int (N 5)) rfl dX8_many_107 ?_
    have hsp : sp_X8_many G F P K N what = (N 5) := by simp only [sp_X8_many, if_neg c_1, if_neg c_2, if_neg c_3, if_neg c_4, if_neg c_5, if_neg c_6, if_pos c_7]
    exact hret _ _ _ _ _ (by rw [hsp]) rfl hP hS dX8_many_110
  refine lv_tableOut (tgt := 111) hx hb dX8_many_1 (by have q0 := lv_neT c_1 (show (0 : Int32).toInt = 0 by decide +kernel); have q1 := lv_neT c_2 (show (1 : Int32).toInt = 1 by decide +kernel); have q2 := lv_neT c_3 (show (2 : Int32).toInt = 2 by decide +kernel); have q3 := lv_neT c_4 (show (3 : Int32).toInt = 3 by decide +kernel); have q4 := lv_neT c_5 (show (4 : Int32).toInt = 4 by decide +kernel); have q5 := lv_neT c_6 (show (5 : Int32).toInt = 5 by decide +kernel); have q6 := lv_neT c_7 (show (6 : Int32).toInt = 6 by decide +kernel); omega) (by decide) ?_
  refine lv_bipush (v := (-2)) hx hb dX8_many_111 (by decide +kernel) ?_
  have hsp : sp_X8_many G F P K N what = (-2) := by simp only [sp_X8_many, if_neg c_1, if_neg c_2, if_neg c_3, if_neg c_4, if_neg c_5, if_neg c_6, if_neg c_7]
  exact hret _ _ _ _ _ (by rw [hsp]) rfl hP hS dX8_many_113
