theorem addTick_3 (N n0 n1 n2 : Nat → Int32) (a b : Int32) : (sp_X1_addTick N n0 n1 n2 a b).1 3 = N 3 := by
  simp only [sp_X1_addTick]
  (repeat' split) <;> rfl

def sp_X8_anew (G : Nat → Int32) (S : Nat → Int32) (F : Nat → Int32) (P : Nat → Int32) (N : Nat → Int32) (n0 : Nat → Int32) (n1 : Nat → Int32) (n2 : Nat → Int32) (p0 : Int32) (p1 : Int32) (p2 : Int32) (p3 : Int32) (p4 : Int32) : Int32 × (Nat → Int32) × (Nat → Int32) × (Nat → Int32) × (Nat → Int32) × (Nat → Int32) × (Nat → Int32) × (Nat → Int32) × (Nat → Int32) :=
  let z_1 : Int32 := (if (sp_X8_within p0 0 5) = 0 then 0 else (if (sp_X8_within p1 1 9) = 0 then 0 else (if (sp_X8_within p2 1 30) = 0 then 0 else (if (sp_X8_within p3 0 3) = 0 then 0 else (if (sp_X8_within p4 2 9) = 0 then 0 else 1)))))
  (if z_1 = 0 then
    ((-2), G, S, F, P, N, n0, n1, n2)
  else
    let S_4 : Nat → Int32 := (sp_X5_become S p0 p1 p2 p3 p4)
    let F_5 : Nat → Int32 := (sp_X0_clear F)
    let P_6 : Nat → Int32 := (sp_X2_begin P)
    let N_7 : Nat → Int32 := ((sp_X1_clear N n0 n1 n2).1)
    let n_8 : Nat → Int32 := ((sp_X1_clear N n0 n1 n2).2.1)
    let n_9 : Nat → Int32 := ((sp_X1_clear N n0 n1 n2).2.2.1)
    let n_10 : Nat → Int32 := ((sp_X1_clear N n0 n1 n2).2.2.2)
    (1, (upd G 9 0), S_4, F_5, P_6, N_7, n_8, n_9, n_10))
set_option maxRecDepth 100000 in
theorem sq_X8_anew_1 (G : Nat → Int32) (S : Nat → Int32) (F : Nat → Int32) (P : Nat → Int32) (N : Nat → Int32) (n0 : Nat → Int32) (n1 : Nat → Int32) (n2 : Nat → Int32) (p0 : Int32) (p1 : Int32) (p2 : Int32) (p3 : Int32) (p4 : Int32) (z_1 : Int32) (S_4 : Nat → Int32) (F_5 : Nat → Int32) (P_6 : Nat → Int32) (N_7 : Nat → Int32) (n_8 : Nat → Int32) (n_9 : Nat → Int32) (n_10 : Nat → Int32) (ez_1 : z_1 = (if (sp_X8_within p0 0 5) = 0 then 0 else (if (sp_X8_within p1 1 9) = 0 then 0 else (if (sp_X8_within p2 1 30) = 0 then 0 else (if (sp_X8_within p3 0 3) = 0 then 0 else (if (sp_X8_within p4 2 9) = 0 then 0 else 1)))))) (eS_4 : S_4 = (sp_X5_become S p0 p1 p2 p3 p4)) (eF_5 : F_5 = (sp_X0_clear F)) (eP_6 : P_6 = (sp_X2_begin P)) (eN_7 : N_7 = ((sp_X1_clear N n0 n1 n2).1)) (en_8 : n_8 = ((sp_X1_clear N n0 n1 n2).2.1)) (en_9 : n_9 = ((sp_X1_clear N n0 n1 n2).2.2.1)) (en_10 : n_10 = ((sp_X1_clear N n0 n1 n2).2.2.2)) (c_3 : ¬ (z_1 = 0)) : sp_X8_anew G S F P N n0 n1 n2 p0 p1 p2 p3 p4 = (1, (upd G 9 0), S_4, F_5, P_6, N_7, n_8, n_9, n_10) := by subst en_10; subst en_9; subst en_8; subst eN_7; subst eP_6; subst eF_5; subst eS_4; subst ez_1; simp only [sp_X8_anew, if_neg c_3]
set_option maxRecDepth 100000 in
theorem sq_X8_anew_2 (G : Nat → Int32) (S : Nat → Int32) (F : Nat → Int32) (P : Nat → Int32) (N : Nat → Int32) (n0 : Nat → Int32) (n1 : Nat → Int32) (n2 : Nat → Int32) (p0 : Int32) (p1 : Int32) (p2 : Int32) (p3 : Int32) (p4 : Int32) (z_1 : Int32) (ez_1 : z_1 = (if (sp_X8_within p0 0 5) = 0 then 0 else (if (sp_X8_within p1 1 9) = 0 then 0 else (if (sp_X8_within p2 1 30) = 0 then 0 else (if (sp_X8_within p3 0 3) = 0 then 0 else (if (sp_X8_within p4 2 9) = 0 then 0 else 1)))))) (c_3 : z_1 = 0) : sp_X8_anew G S F P N n0 n1 n2 p0 p1 p2 p3 p4 = ((-2), G, S, F, P, N, n0, n1, n2) := by subst ez_1; simp only [sp_X8_anew, if_pos c_3]
set_option maxHeartbeats 4000000 in
set_option maxRecDepth 100000 in
theorem c_X8_anew (l : Launch) (D : va_G) (cI cJ cO : ClassId) (h : Nat) (r : Nat → Nat) (na : Nat) (nb : Nat) (nc : Nat) (G : Nat → Int32) (S : Nat → Int32) (F : Nat → Int32) (P : Nat → Int32) (N : Nat → Int32) (n0 : Nat → Int32) (n1 : Nat → Int32) (n2 : Nat → Int32) (p0 : Int32) (p1 : Int32) (p2 : Int32) (p3 : Int32) (p4 : Int32)  : MI l D (TY cI cJ cO) yX8_anew wsX8_anew (RM 2) [.ref h, .int p0, .int p1, .int p2, .int p3, .int p4] [(h, oX8 r G), ((r 0), oX5 S), ((r 1), oX0 F), ((r 2), oX2 (r 0) (r 1) P), ((r 4), oX1 na nb nc N), (na, .inl (cI, 90, .inl n0)), (nb, .inl (cI, 5, .inl n1)), (nc, .inl (cI, 5, .inl n2))] ((sp_X8_anew G S F P N n0 n1 n2 p0 p1 p2 p3 p4).1) [(h, oX8 r ((sp_X8_anew G S F P N n0 n1 n2 p0 p1 p2 p3 p4).2.1)), ((r 0), oX5 ((sp_X8_anew G S F P N n0 n1 n2 p0 p1 p2 p3 p4).2.2.1)), ((r 1), oX0 ((sp_X8_anew G S F P N n0 n1 n2 p0 p1 p2 p3 p4).2.2.2.1)), ((r 2), oX2 (r 0) (r 1) ((sp_X8_anew G S F P N n0 n1 n2 p0 p1 p2 p3 p4).2.2.2.2.1)), ((r 4), oX1 na nb nc ((sp_X8_anew G S F P N n0 n1 n2 p0 p1 p2 p3 p4).2.2.2.2.2.1)), (na, .inl (cI, 90, .inl ((sp_X8_anew G S F P N n0 n1 n2 p0 p1 p2 p3 p4).2.2.2.2.2.2.1))), (nb, .inl (cI, 5, .inl ((sp_X8_anew G S F P N n0 n1 n2 p0 p1 p2 p3 p4).2.2.2.2.2.2.2.1))), (nc, .inl (cI, 5, .inl ((sp_X8_anew G S F P N n0 n1 n2 p0 p1 p2 p3 p4).2.2.2.2.2.2.2.2)))] := by
  refine k_entI (cc := cX8_anew) (maxL := 7) (lv := [(0, .ref h), (1, .int p0), (2, .int p1), (3, .int p2), (4, .int p3), (5, .int p4)]) (by decide +kernel) rfl (Nat.le_of_ble_eq_true rfl) rfl ?_
  intro p e s m below meth c A Q ls hx hb hml hts hown hA hS hP hD hK hN hl hret
  have hown : s.vm.findClass RX8 = some m.cls := hown
  have hi8 : ∀ w ∈ wsX80, w ∈ wsX8_anew := fun w h => List.mem_cons_of_mem _ (List.mem_append_left _ (List.mem_append_left _ (List.mem_append_left _ (List.mem_append_left _ (List.mem_append_right _ h)))))
  have hf10 := hts (.fieldLink RX8 10 "PressGuard" "settings" "LPressGuard$Settings;") (by decide +kernel)
  have hf19 := hts (.fieldLink RX8 19 "PressGuard" "faults" "LPressGuard$Faults;") (by decide +kernel)
  have hf28 := hts (.fieldLink RX8 28 "PressGuard" "press" "LPressGuard$Press;") (by decide +kernel)
  have hf38 := hts (.fieldLink RX8 38 "PressGuard" "notes" "LPressGuard$Notes;") (by decide +kernel)
  have hf72 := hts (.fieldLink RX8 72 "PressGuard" "sumsHold" "Z") (by decide +kernel)
  refine lv_iload_n hx hb dX8_anew_0 rfl (lv_at hl 1 rfl) ?_
  refine lv_iconst (v := 0) hx hb dX8_anew_1 (by decide +kernel) ?_
  refine lv_iconst (v := 5) hx hb dX8_anew_2 (by decide +kernel) ?_
  refine k_Si ⟨hx, hb, hml, hown, hts⟩ (c_X8_within l D cI cJ cO p0 0 5) (va_cwS 3 hts gX8_anew_X8_within rfl rfl rfl (by decide +kernel) ⟨Nat.le_of_ble_eq_true rfl, Nat.le_of_ble_eq_true rfl⟩) hK hN hP hD hS hA [] rfl rfl rfl (ws' := [(h, oX8 r G), ((r 0), oX5 S), ((r 1), oX0 F), ((r 2), oX2 (r 0) (r 1) P), ((r 4), oX1 na nb nc N), (na, .inl (cI, 90, .inl n0)), (nb, .inl (cI, 5, .inl n1)), (nc, .inl (cI, 5, .inl n2))]) rfl rfl hl.1 rfl (Nat.le_of_ble_eq_true rfl) dX8_anew_3 ⟨Nat.le_refl _, Nat.le_refl _⟩ (fun H locs hP hD hS => ?_)
  have J_2 : ∀ z_1 : Int32, z_1 = (if (sp_X8_within p0 0 5) = 0 then 0 else (if (sp_X8_within p1 1 9) = 0 then 0 else (if (sp_X8_within p2 1 30) = 0 then 0 else (if (sp_X8_within p3 0 3) = 0 then 0 else (if (sp_X8_within p4 2 9) = 0 then 0 else 1))))) → ∀ (H : Heap) (locs : List Loc), va_P D vwCl [(h, oX8 r G), ((r 0), oX5 S), ((r 1), oX0 F), ((r 2), oX2 (r 0) (r 1) P), ((r 4), oX1 na nb nc N), (na, .inl (cI, 90, .inl n0)), (nb, .inl (cI, 5, .inl n1)), (nc, .inl (cI, 5, .inl n2))] H → va_D A [(h, oX8 r G), ((r 0), oX5 S), ((r 1), oX0 F), ((r 2), oX2 (r 0) (r 1) P), ((r 4), oX1 na nb nc N), (na, .inl (cI, 90, .inl n0)), (nb, .inl (cI, 5, .inl n1)), (nc, .inl (cI, 5, .inl n2))] → va_S A s.heap H locs → ∀ ls : Array Slot, lv_has ls 7 [(0, .ref h), (1, .int p0), (2, .int p1), (3, .int p2), (4, .int p3), (5, .int p4)] → W p l e (RM 2) s m ([.ref h, .int p0, .int p1, .int p2, .int p3, .int p4] : List Value).toArray below meth c H locs 0 0 Q (F0 m 55 ls [.int z_1]) := by
    intro z_1 ez_1 H locs hP hD hS ls hl
    refine lv_istore (lv' := [(6, .int z_1), (0, .ref h), (1, .int p0), (2, .int p1), (3, .int p2), (4, .int p3), (5, .int p4)]) hx hb dX8_anew_55 hl (by decide) rfl (fun ls hl => ?_)
    refine lv_iload hx hb dX8_anew_57 (lv_at hl 0 rfl) ?_
    refine lv_if_ne (tgt := 65) hx hb dX8_anew_59 (by decide) (fun c_3 => ?_) (fun c_3 => ?_)
    · skip
      refine lv_aload_n hx hb dX8_anew_65 rfl (lv_at hl 1 rfl) ?_
      refine k_get hx hb hts hi8 hown hK hP 0 rfl rfl 0 (by decide) hf10 (.ref (r 0)) rfl dX8_anew_66 ?_
      refine lv_iload_n hx hb dX8_anew_69 rfl (lv_at hl 2 rfl) ?_
      refine lv_iload_n hx hb dX8_anew_70 rfl (lv_at hl 3 rfl) ?_
      refine lv_iload_n hx hb dX8_anew_71 rfl (lv_at hl 4 rfl) ?_
      refine lv_iload hx hb dX8_anew_72 (lv_at hl 5 rfl) ?_
      refine lv_iload hx hb dX8_anew_74 (lv_at hl 6 rfl) ?_
      obtain ⟨S_4, eS_4⟩ : ∃ q : Nat → Int32, q = (sp_X5_become S p0 p1 p2 p3 p4) := ⟨_, rfl⟩
      refine k_Vv ⟨hx, hb, hml, hown, hts⟩ (c_X5_become l D cI cJ cO (r 0) S p0 p1 p2 p3 p4) (ci := 5) (q0 := 1) rfl rfl (cwV 5 hts gX8_anew_X5_become rfl rfl rfl (by decide +kernel) ⟨Nat.le_of_ble_eq_true rfl, Nat.le_of_ble_eq_true rfl⟩) hK hN hP hD hS hA [1] rfl rfl rfl (ws' := [(h, oX8 r G), ((r 0), oX5 S_4), ((r 1), oX0 F), ((r 2), oX2 (r 0) (r 1) P), ((r 4), oX1 na nb nc N), (na, .inl (cI, 90, .inl n0)), (nb, .inl (cI, 5, .inl n1)), (nc, .inl (cI, 5, .inl n2))]) (by rw [eS_4]; rfl) rfl hl.1 rfl (Nat.le_of_ble_eq_true rfl) dX8_anew_76 ⟨Nat.le_refl _, Nat.le_refl _⟩ (fun H locs hP hD hS => ?_)
      refine lv_aload_n hx hb dX8_anew_79 rfl (lv_at hl 1 rfl) ?_
      refine k_get hx hb hts hi8 hown hK hP 0 rfl rfl 1 (by decide) hf19 (.ref (r 1)) rfl dX8_anew_80 ?_
      obtain ⟨F_5, eF_5⟩ : ∃ q : Nat → Int32, q = (sp_X0_clear F) := ⟨_, rfl⟩
      refine k_Vv ⟨hx, hb, hml, hown, hts⟩ (c_X0_clear l D cI cJ cO (r 1) F) (ci := 0) (q0 := 2) rfl rfl (cwV 0 hts gX8_anew_X0_clear rfl rfl rfl (by decide +kernel) ⟨Nat.le_of_ble_eq_true rfl, Nat.le_of_ble_eq_true rfl⟩) hK hN hP hD hS hA [2] rfl rfl rfl (ws' := [(h, oX8 r G), ((r 0), oX5 S_4), ((r 1), oX0 F_5), ((r 2), oX2 (r 0) (r 1) P), ((r 4), oX1 na nb nc N), (na, .inl (cI, 90, .inl n0)), (nb, .inl (cI, 5, .inl n1)), (nc, .inl (cI, 5, .inl n2))]) (by rw [eF_5]; rfl) rfl hl.1 rfl (Nat.le_of_ble_eq_true rfl) dX8_anew_83 ⟨Nat.le_refl _, Nat.le_refl _⟩ (fun H locs hP hD hS => ?_)
      refine lv_aload_n hx hb dX8_anew_86 rfl (lv_at hl 1 rfl) ?_
      refine k_get hx hb hts hi8 hown hK hP 0 rfl rfl 2 (by decide) hf28 (.ref (r 2)) rfl dX8_anew_87 ?_
      obtain ⟨P_6, eP_6⟩ : ∃ q : Nat → Int32, q = (sp_X2_begin P) := ⟨_, rfl⟩
      refine k_Vv ⟨hx, hb, hml, hown, hts⟩ (c_X2_begin l D cI cJ cO (r 2) (r 0) (r 1) P) (ci := 2) (q0 := 3) rfl rfl (cwV 0 hts gX8_anew_X2_begin rfl rfl rfl (by decide +kernel) ⟨Nat.le_of_ble_eq_true rfl, Nat.le_of_ble_eq_true rfl⟩) hK hN hP hD hS hA [3] rfl rfl rfl (ws' := [(h, oX8 r G), ((r 0), oX5 S_4), ((r 1), oX0 F_5), ((r 2), oX2 (r 0) (r 1) P_6), ((r 4), oX1 na nb nc N), (na, .inl (cI, 90, .inl n0)), (nb, .inl (cI, 5, .inl n1)), (nc, .inl (cI, 5, .inl n2))]) (by rw [eP_6]; rfl) rfl hl.1 rfl (Nat.le_of_ble_eq_true rfl) dX8_anew_90 ⟨Nat.le_refl _, Nat.le_refl _⟩ (fun H locs hP hD hS => ?_)
      refine lv_aload_n hx hb dX8_anew_93 rfl (lv_at hl 1 rfl) ?_
      refine k_get hx hb hts hi8 hown hK hP 0 rfl rfl 4 (by decide) hf38 (.ref (r 4)) rfl dX8_anew_94 ?_
      obtain ⟨N_7, eN_7⟩ : ∃ q : Nat → Int32, q = ((sp_X1_clear N n0 n1 n2).1) := ⟨_, rfl⟩
      obtain ⟨n_8, en_8⟩ : ∃ q : Nat → Int32, q = ((sp_X1_clear N n0 n1 n2).2.1) := ⟨_, rfl⟩
      obtain ⟨n_9, en_9⟩ : ∃ q : Nat → Int32, q = ((sp_X1_clear N n0 n1 n2).2.2.1) := ⟨_, rfl⟩
      obtain ⟨n_10, en_10⟩ : ∃ q : Nat → Int32, q = ((sp_X1_clear N n0 n1 n2).2.2.2) := ⟨_, rfl⟩
      refine k_Vv ⟨hx, hb, hml, hown, hts⟩ (c_X1_clear l D cI cJ cO (r 4) na nb nc N n0 n1 n2) (ci := 1) (q0 := 4) rfl rfl (cwV 0 hts gX8_anew_X1_clear rfl rfl rfl (by decide +kernel) ⟨Nat.le_of_ble_eq_true rfl, Nat.le_of_ble_eq_true rfl⟩) hK hN hP hD hS hA [4, 5, 6, 7] rfl rfl rfl (ws' := [(h, oX8 r G), ((r 0), oX5 S_4), ((r 1), oX0 F_5), ((r 2), oX2 (r 0) (r 1) P_6), ((r 4), oX1 na nb nc N_7), (na, .inl (cI, 90, .inl n_8)), (nb, .inl (cI, 5, .inl n_9)), (nc, .inl (cI, 5, .inl n_10))]) (by rw [eN_7, en_8, en_9, en_10]; rfl) rfl hl.1 rfl (Nat.le_of_ble_eq_true rfl) dX8_anew_97 ⟨Nat.le_refl _, Nat.le_refl _⟩ (fun H locs hP hD hS => ?_)
      refine lv_aload_n hx hb dX8_anew_100 rfl (lv_at hl 1 rfl) ?_
      refine lv_iconst (v := 0) hx hb dX8_anew_101 (by decide +kernel) ?_
      refine k_put hx hb hts hi8 tyX8_ok nmX8 hown hK hP hD hS 0 rfl rfl 9 (by decide) hf72 rfl (.int 0) rfl rfl (Nat.le_of_ble_eq_true rfl) (ws' := [(h, oX8 r (upd G 9 0)), ((r 0), oX5 S_4), ((r 1), oX0 F_5), ((r 2), oX2 (r 0) (r 1) P_6), ((r 4), oX1 na nb nc N_7), (na, .inl (cI, 90, .inl n_8)), (nb, .inl (cI, 5, .inl n_9)), (nc, .inl (cI, 5, .inl n_10))]) rfl dX8_anew_102 (fun H locs hP hD hS => ?_)
      refine lv_iconst (v := 1) hx hb dX8_anew_105 (by decide +kernel) ?_
      have hsp : sp_X8_anew G S F P N n0 n1 n2 p0 p1 p2 p3 p4 = (1, (upd G 9 0), S_4, F_5, P_6, N_7, n_8, n_9, n_10) := sq_X8_anew_1 G S F P N n0 n1 n2 p0 p1 p2 p3 p4 z_1 S_4 F_5 P_6 N_7 n_8 n_9 n_10 ez_1 eS_4 eF_5 eP_6 eN_7 en_8 en_9 en_10 c_3
      exact hret _ _ _ _ _ (by rw [hsp]) rfl (by rw [hsp]; exact hP) hS dX8_anew_106
    · skip
      refine lv_bipush (v := (-2)) hx hb dX8_anew_62 (by decide +kernel) ?_
      have hsp : sp_X8_anew G S F P N n0 n1 n2 p0 p1 p2 p3 p4 = ((-2), G, S, F, P, N, n0, n1, n2) := sq_X8_anew_2 G S F P N n0 n1 n2 p0 p1 p2 p3 p4 z_1 ez_1 c_3
      exact hret _ _ _ _ _ (by rw [hsp]) rfl (by rw [hsp]; exact hP) hS dX8_anew_64
  refine lv_if_eq (tgt := 54) hx hb dX8_anew_6 (by decide) (fun c_11 => ?_) (fun c_11 => ?_)
  · skip
    refine lv_iconst (v := 0) hx hb dX8_anew_54 (by decide +kernel) ?_
    exact J_2 0 (by first | (simp only [if_pos c_11]; done) | rfl) _ _ hP hD hS _ (lv_sub hl [0, 1, 2, 3, 4, 5] rfl)
  · skip
    refine lv_iload_n hx hb dX8_anew_9 rfl (lv_at hl 2 rfl) ?_
    refine lv_iconst (v := 1) hx hb dX8_anew_10 (by decide +kernel) ?_
    refine lv_bipush (v := 9) hx hb dX8_anew_11 (by decide +kernel) ?_
    refine k_Si ⟨hx, hb, hml, hown, hts⟩ (c_X8_within l D cI cJ cO p1 1 9) (va_cwS 3 hts gX8_anew_X8_within rfl rfl rfl (by decide +kernel) ⟨Nat.le_of_ble_eq_true rfl, Nat.le_of_ble_eq_true rfl⟩) hK hN hP hD hS hA [] rfl rfl rfl (ws' := [(h, oX8 r G), ((r 0), oX5 S), ((r 1), oX0 F), ((r 2), oX2 (r 0) (r 1) P), ((r 4), oX1 na nb nc N), (na, .inl (cI, 90, .inl n0)), (nb, .inl (cI, 5, .inl n1)), (nc, .inl (cI, 5, .inl n2))]) rfl rfl hl.1 rfl (Nat.le_of_ble_eq_true rfl) dX8_anew_13 ⟨Nat.le_refl _, Nat.le_refl _⟩ (fun H locs hP hD hS => ?_)
    refine lv_if_eq (tgt := 54) hx hb dX8_anew_16 (by decide) (fun c_12 => ?_) (fun c_12 => ?_)
    · skip
      refine lv_iconst (v := 0) hx hb dX8_anew_54 (by decide +kernel) ?_
      exact J_2 0 (by first | (simp only [if_neg c_11, if_pos c_12]; done) | rfl) _ _ hP hD hS _ (lv_sub hl [0, 1, 2, 3, 4, 5] rfl)
    · skip
      refine lv_iload_n hx hb dX8_anew_19 rfl (lv_at hl 3 rfl) ?_
      refine lv_iconst (v := 1) hx hb dX8_anew_20 (by decide +kernel) ?_
      refine lv_bipush (v := 30) hx hb dX8_anew_21 (by decide +kernel) ?_
      refine k_Si ⟨hx, hb, hml, hown, hts⟩ (c_X8_within l D cI cJ cO p2 1 30) (va_cwS 3 hts gX8_anew_X8_within rfl rfl rfl (by decide +kernel) ⟨Nat.le_of_ble_eq_true rfl, Nat.le_of_ble_eq_true rfl⟩) hK hN hP hD hS hA [] rfl rfl rfl (ws' := [(h, oX8 r G), ((r 0), oX5 S), ((r 1), oX0 F), ((r 2), oX2 (r 0) (r 1) P), ((r 4), oX1 na nb nc N), (na, .inl (cI, 90, .inl n0)), (nb, .inl (cI, 5, .inl n1)), (nc, .inl (cI, 5, .inl n2))]) rfl rfl hl.1 rfl (Nat.le_of_ble_eq_true rfl) dX8_anew_23 ⟨Nat.le_refl _, Nat.le_refl _⟩ (fun H locs hP hD hS => ?_)
      refine lv_if_eq (tgt := 54) hx hb dX8_anew_26 (by decide) (fun c_13 => ?_) (fun c_13 => ?_)
      · skip
        refine lv_iconst (v := 0) hx hb dX8_anew_54 (by decide +kernel) ?_
        exact J_2 0 (by first | (simp only [if_neg c_11, if_neg c_12, if_pos c_13]; done) | rfl) _ _ hP hD hS _ (lv_sub hl [0, 1, 2, 3, 4, 5] rfl)
      · skip
        refine lv_iload hx hb dX8_anew_29 (lv_at hl 4 rfl) ?_
        refine lv_iconst (v := 0) hx hb dX8_anew_31 (by decide +kernel) ?_
        refine lv_iconst (v := 3) hx hb dX8_anew_32 (by decide +kernel) ?_
        refine k_Si ⟨hx, hb, hml, hown, hts⟩ (c_X8_within l D cI cJ cO p3 0 3) (va_cwS 3 hts gX8_anew_X8_within rfl rfl rfl (by decide +kernel) ⟨Nat.le_of_ble_eq_true rfl, Nat.le_of_ble_eq_true rfl⟩) hK hN hP hD hS hA [] rfl rfl rfl (ws' := [(h, oX8 r G), ((r 0), oX5 S), ((r 1), oX0 F), ((r 2), oX2 (r 0) (r 1) P), ((r 4), oX1 na nb nc N), (na, .inl (cI, 90, .inl n0)), (nb, .inl (cI, 5, .inl n1)), (nc, .inl (cI, 5, .inl n2))]) rfl rfl hl.1 rfl (Nat.le_of_ble_eq_true rfl) dX8_anew_33 ⟨Nat.le_refl _, Nat.le_refl _⟩ (fun H locs hP hD hS => ?_)
        refine lv_if_eq (tgt := 54) hx hb dX8_anew_36 (by decide) (fun c_14 => ?_) (fun c_14 => ?_)
        · skip
          refine lv_iconst (v := 0) hx hb dX8_anew_54 (by decide +kernel) ?_
          exact J_2 0 (by first | (simp only [if_neg c_11, if_neg c_12, if_neg c_13, if_pos c_14]; done) | rfl) _ _ hP hD hS _ (lv_sub hl [0, 1, 2, 3, 4, 5] rfl)
        · skip
          refine lv_iload hx hb dX8_anew_39 (lv_at hl 5 rfl) ?_
          refine lv_iconst (v := 2) hx hb dX8_anew_41 (by decide +kernel) ?_
          refine lv_bipush (v := 9) hx hb dX8_anew_42 (by decide +kernel) ?_
          refine k_Si ⟨hx, hb, hml, hown, hts⟩ (c_X8_within l D cI cJ cO p4 2 9) (va_cwS 3 hts gX8_anew_X8_within rfl rfl rfl (by decide +kernel) ⟨Nat.le_of_ble_eq_true rfl, Nat.le_of_ble_eq_true rfl⟩) hK hN hP hD hS hA [] rfl rfl rfl (ws' := [(h, oX8 r G), ((r 0), oX5 S), ((r 1), oX0 F), ((r 2), oX2 (r 0) (r 1) P), ((r 4), oX1 na nb nc N), (na, .inl (cI, 90, .inl n0)), (nb, .inl (cI, 5, .inl n1)), (nc, .inl (cI, 5, .inl n2))]) rfl rfl hl.1 rfl (Nat.le_of_ble_eq_true rfl) dX8_anew_44 ⟨Nat.le_refl _, Nat.le_refl _⟩ (fun H locs hP hD hS => ?_)
          refine lv_if_eq (tgt := 54) hx hb dX8_anew_47 (by decide) (fun c_15 => ?_) (fun c_15 => ?_)
          · skip
            refine lv_iconst (v := 0) hx hb dX8_anew_54 (by decide +kernel) ?_
            exact J_2 0 (by first | (simp only [if_neg c_11, if_neg c_12, if_neg c_13, if_neg c_14, if_pos c_15]; done) | rfl) _ _ hP hD hS _ (lv_sub hl [0, 1, 2, 3, 4, 5] rfl)
          · skip
            refine lv_iconst (v := 1) hx hb dX8_anew_50 (by decide +kernel) ?_
            refine lv_goto (tgt := 55) hx hb dX8_anew_51 (by decide) ?_
            exact J_2 1 (by first | (simp only [if_neg c_11, if_neg c_12, if_neg c_13, if_neg c_14, if_neg c_15]; done) | rfl) _ _ hP hD hS _ (lv_sub hl [0, 1, 2, 3, 4, 5] rfl)

def sp_X8_stick (G : Nat → Int32) (F : Nat → Int32) (input : Int32) (v : Int32) : Int32 × (Nat → Int32) :=
  (if (sp_X8_within input 0 8) = 0 then
    ((-1), F)
  else
    (if (sp_X8_within v 0 2) = 0 then
      ((-2), F)
    else
      let F_3 : Nat → Int32 := (sp_X0_setInput F input v)
      ((sp_X0_inputStuckAt F input), F_3)))
set_option maxRecDepth 100000 in
theorem sq_X8_stick_1 (G : Nat → Int32) (F : Nat → Int32) (input : Int32) (v : Int32) (F_3 : Nat → Int32) (eF_3 : F_3 = (sp_X0_setInput F input v)) (c_1 : ¬ ((sp_X8_within input 0 8) = 0)) (c_2 : ¬ ((sp_X8_within v 0 2) = 0)) : sp_X8_stick G F input v = ((sp_X0_inputStuckAt F input), F_3) := by subst eF_3; simp only [sp_X8_stick, if_neg c_1, if_neg c_2]
set_option maxHeartbeats 4000000 in
set_option maxRecDepth 100000 in
theorem c_X8_stick (l : Launch) (D : va_G) (cI cJ cO : ClassId) (h : Nat) (r : Nat → Nat) (G : Nat → Int32) (F : Nat → Int32) (input : Int32) (v : Int32)  : MI l D (TY cI cJ cO) yX8_stick wsX8_stick (RM 2) [.ref h, .int input, .int v] [(h, oX8 r G), ((r 1), oX0 F)] ((sp_X8_stick G F input v).1) [(h, oX8 r G), ((r 1), oX0 ((sp_X8_stick G F input v).2))] := by
  refine k_entI (cc := cX8_stick) (maxL := 4) (lv := [(0, .ref h), (1, .int input), (2, .int v)]) (by decide +kernel) rfl (Nat.le_of_ble_eq_true rfl) rfl ?_
  intro p e s m below meth c A Q ls hx hb hml hts hown hA hS hP hD hK hN hl hret
  have hown : s.vm.findClass RX8 = some m.cls := hown
  have hi8 : ∀ w ∈ wsX80, w ∈ wsX8_stick := fun w h => List.mem_cons_of_mem _ (List.mem_append_left _ (List.mem_append_right _ h))
  have hf19 := hts (.fieldLink RX8 19 "PressGuard" "faults" "LPressGuard$Faults;") (by decide +kernel)
  refine lv_iload_n hx hb dX8_stick_0 rfl (lv_at hl 1 rfl) ?_
  refine lv_iconst (v := 0) hx hb dX8_stick_1 (by decide +kernel) ?_
  refine lv_bipush (v := 8) hx hb dX8_stick_2 (by decide +kernel) ?_
  refine k_Si ⟨hx, hb, hml, hown, hts⟩ (c_X8_within l D cI cJ cO input 0 8) (va_cwS 3 hts gX8_stick_X8_within rfl rfl rfl (by decide +kernel) ⟨Nat.le_of_ble_eq_true rfl, Nat.le_of_ble_eq_true rfl⟩) hK hN hP hD hS hA [] rfl rfl rfl (ws' := [(h, oX8 r G), ((r 1), oX0 F)]) rfl rfl hl.1 rfl (Nat.le_of_ble_eq_true rfl) dX8_stick_4 ⟨Nat.le_refl _, Nat.le_refl _⟩ (fun H locs hP hD hS => ?_)
  refine lv_if_ne (tgt := 12) hx hb dX8_stick_7 (by decide) (fun c_1 => ?_) (fun c_1 => ?_)
  · skip
    refine lv_iload_n hx hb dX8_stick_12 rfl (lv_at hl 2 rfl) ?_
    refine lv_iconst (v := 0) hx hb dX8_stick_13 (by decide +kernel) ?_
    refine lv_iconst (v := 2) hx hb dX8_stick_14 (by decide +kernel) ?_
    refine k_Si ⟨hx, hb, hml, hown, hts⟩ (c_X8_within l D cI cJ cO v 0 2) (va_cwS 3 hts gX8_stick_X8_within rfl rfl rfl (by decide +kernel) ⟨Nat.le_of_ble_eq_true rfl, Nat.le_of_ble_eq_true rfl⟩) hK hN hP hD hS hA [] rfl rfl rfl (ws' := [(h, oX8 r G), ((r 1), oX0 F)]) rfl rfl hl.1 rfl (Nat.le_of_ble_eq_true rfl) dX8_stick_15 ⟨Nat.le_refl _, Nat.le_refl _⟩ (fun H locs hP hD hS => ?_)
    refine lv_if_ne (tgt := 24) hx hb dX8_stick_18 (by decide) (fun c_2 => ?_) (fun c_2 => ?_)
    · skip
      refine lv_aload_n hx hb dX8_stick_24 rfl (lv_at hl 0 rfl) ?_
      refine k_get hx hb hts hi8 hown hK hP 0 rfl rfl 1 (by decide) hf19 (.ref (r 1)) rfl dX8_stick_25 ?_
      refine lv_iload_n hx hb dX8_stick_28 rfl (lv_at hl 1 rfl) ?_
      refine k_Vi ⟨hx, hb, hml, hown, hts⟩ (c_X0_inputStuckAt l D cI cJ cO (r 1) F input) (ci := 0) (q0 := 1) rfl rfl (cwV 1 hts gX8_stick_X0_inputStuckAt rfl rfl rfl (by decide +kernel) ⟨Nat.le_of_ble_eq_true rfl, Nat.le_of_ble_eq_true rfl⟩) hK hN hP hD hS hA [1] rfl rfl rfl (ws' := [(h, oX8 r G), ((r 1), oX0 F)]) rfl rfl hl.1 rfl (Nat.le_of_ble_eq_true rfl) dX8_stick_29 ⟨Nat.le_refl _, Nat.le_refl _⟩ (fun H locs hP hD hS => ?_)
      refine lv_istore_n (lv' := [(3, .int (sp_X0_inputStuckAt F input)), (0, .ref h), (1, .int input), (2, .int v)]) hx hb dX8_stick_32 rfl hl (by decide) rfl (fun ls hl => ?_)
      refine lv_aload_n hx hb dX8_stick_33 rfl (lv_at hl 1 rfl) ?_
      refine k_get hx hb hts hi8 hown hK hP 0 rfl rfl 1 (by decide) hf19 (.ref (r 1)) rfl dX8_stick_34 ?_
      refine lv_iload_n hx hb dX8_stick_37 rfl (lv_at hl 2 rfl) ?_
      refine lv_iload_n hx hb dX8_stick_38 rfl (lv_at hl 3 rfl) ?_
      obtain ⟨F_3, eF_3⟩ : ∃ q : Nat → Int32, q = (sp_X0_setInput F input v) := ⟨_, rfl⟩
      refine k_Vv ⟨hx, hb, hml, hown, hts⟩ (c_X0_setInput l D cI cJ cO (r 1) F input v) (ci := 0) (q0 := 1) rfl rfl (cwV 2 hts gX8_stick_X0_setInput rfl rfl rfl (by decide +kernel) ⟨Nat.le_of_ble_eq_true rfl, Nat.le_of_ble_eq_true rfl⟩) hK hN hP hD hS hA [1] rfl rfl rfl (ws' := [(h, oX8 r G), ((r 1), oX0 F_3)]) (by rw [eF_3]; rfl) rfl hl.1 rfl (Nat.le_of_ble_eq_true rfl) dX8_stick_39 ⟨Nat.le_refl _, Nat.le_refl _⟩ (fun H locs hP hD hS => ?_)
      refine lv_iload_n hx hb dX8_stick_42 rfl (lv_at hl 0 rfl) ?_
      have hsp : sp_X8_stick G F input v = ((sp_X0_inputStuckAt F input), F_3) := sq_X8_stick_1 G F input v F_3 eF_3 c_1 c_2
      exact hret _ _ _ _ _ (by rw [hsp]) rfl (by rw [hsp]; exact hP) hS dX8_stick_43
    · skip
      refine lv_bipush (v := (-2)) hx hb dX8_stick_21 (by decide +kernel) ?_
      have hsp : sp_X8_stick G F input v = ((-2), F) := by simp only [sp_X8_stick, if_neg c_1, if_pos c_2]
      exact hret _ _ _ _ _ (by rw [hsp]) rfl (by rw [hsp]; exact hP) hS dX8_stick_23
  · skip
    refine lv_iconst (v := (-1)) hx hb dX8_stick_10 (by decide +kernel) ?_
    have hsp : sp_X8_stick G F input v = ((-1), F) := by simp only [sp_X8_stick, if_pos c_1]
    exact hret _ _ _ _ _ (by rw [hsp]) rfl (by rw [hsp]; exact hP) hS dX8_stick_11

def sp_X8_valve (G : Nat → Int32) (F : Nat → Int32) (k0 : Int32) (v : Int32) : Int32 × (Nat → Int32) :=
  (if (sp_X8_within k0 0 1) = 0 then
    ((-1), F)
  else
    (if (sp_X8_within v 0 2) = 0 then
      ((-2), F)
    else
      let F_3 : Nat → Int32 := (sp_X0_setValve F k0 v)
      ((sp_X0_valveStuckAt F k0), F_3)))
set_option maxRecDepth 100000 in
theorem sq_X8_valve_1 (G : Nat → Int32) (F : Nat → Int32) (k0 : Int32) (v : Int32) (F_3 : Nat → Int32) (eF_3 : F_3 = (sp_X0_setValve F k0 v)) (c_1 : ¬ ((sp_X8_within k0 0 1) = 0)) (c_2 : ¬ ((sp_X8_within v 0 2) = 0)) : sp_X8_valve G F k0 v = ((sp_X0_valveStuckAt F k0), F_3) := by subst eF_3; simp only [sp_X8_valve, if_neg c_1, if_neg c_2]
set_option maxHeartbeats 4000000 in
set_option maxRecDepth 100000 in
theorem c_X8_valve (l : Launch) (D : va_G) (cI cJ cO : ClassId) (h : Nat) (r : Nat → Nat) (G : Nat → Int32) (F : Nat → Int32) (k0 : Int32) (v : Int32)  : MI l D (TY cI cJ cO) yX8_valve wsX8_valve (RM 1) [.ref h, .int k0, .int v] [(h, oX8 r G), ((r 1), oX0 F)] ((sp_X8_valve G F k0 v).1) [(h, oX8 r G), ((r 1), oX0 ((sp_X8_valve G F k0 v).2))] := by
  refine k_entI (cc := cX8_valve) (maxL := 4) (lv := [(0, .ref h), (1, .int k0), (2, .int v)]) (by decide +kernel) rfl (Nat.le_of_ble_eq_true rfl) rfl ?_
  intro p e s m below meth c A Q ls hx hb hml hts hown hA hS hP hD hK hN hl hret
  have hown : s.vm.findClass RX8 = some m.cls := hown
  have hi8 : ∀ w ∈ wsX80, w ∈ wsX8_valve := fun w h => List.mem_cons_of_mem _ (List.mem_append_left _ (List.mem_append_right _ h))
  have hf19 := hts (.fieldLink RX8 19 "PressGuard" "faults" "LPressGuard$Faults;") (by decide +kernel)
  refine lv_iload_n hx hb dX8_valve_0 rfl (lv_at hl 1 rfl) ?_
  refine lv_iconst (v := 0) hx hb dX8_valve_1 (by decide +kernel) ?_
  refine lv_iconst (v := 1) hx hb dX8_valve_2 (by decide +kernel) ?_
  refine k_Si ⟨hx, hb, hml, hown, hts⟩ (c_X8_within l D cI cJ cO k0 0 1) (va_cwS 3 hts gX8_valve_X8_within rfl rfl rfl (by decide +kernel) ⟨Nat.le_of_ble_eq_true rfl, Nat.le_of_ble_eq_true rfl⟩) hK hN hP hD hS hA [] rfl rfl rfl (ws' := [(h, oX8 r G), ((r 1), oX0 F)]) rfl rfl hl.1 rfl (Nat.le_of_ble_eq_true rfl) dX8_valve_3 ⟨Nat.le_refl _, Nat.le_refl _⟩ (fun H locs hP hD hS => ?_)
  refine lv_if_ne (tgt := 11) hx hb dX8_valve_6 (by decide) (fun c_1 => ?_) (fun c_1 => ?_)
  · skip
    refine lv_iload_n hx hb dX8_valve_11 rfl (lv_at hl 2 rfl) ?_
    refine lv_iconst (v := 0) hx hb dX8_valve_12 (by decide +kernel) ?_
    refine lv_iconst (v := 2) hx hb dX8_valve_13 (by decide +kernel) ?_
    refine k_Si ⟨hx, hb, hml, hown, hts⟩ (c_X8_within l D cI cJ cO v 0 2) (va_cwS 3 hts gX8_valve_X8_within rfl rfl rfl (by decide +kernel) ⟨Nat.le_of_ble_eq_true rfl, Nat.le_of_ble_eq_true rfl⟩) hK hN hP hD hS hA [] rfl rfl rfl (ws' := [(h, oX8 r G), ((r 1), oX0 F)]) rfl rfl hl.1 rfl (Nat.le_of_ble_eq_true rfl) dX8_valve_14 ⟨Nat.le_refl _, Nat.le_refl _⟩ (fun H locs hP hD hS => ?_)
    refine lv_if_ne (tgt := 23) hx hb dX8_valve_17 (by decide) (fun c_2 => ?_) (fun c_2 => ?_)
    · skip
      refine lv_aload_n hx hb dX8_valve_23 rfl (lv_at hl 0 rfl) ?_
      refine k_get hx hb hts hi8 hown hK hP 0 rfl rfl 1 (by decide) hf19 (.ref (r 1)) rfl dX8_valve_24 ?_
      refine lv_iload_n hx hb dX8_valve_27 rfl (lv_at hl 1 rfl) ?_
      refine k_Vi ⟨hx, hb, hml, hown, hts⟩ (c_X0_valveStuckAt l D cI cJ cO (r 1) F k0) (ci := 0) (q0 := 1) rfl rfl (cwV 1 hts gX8_valve_X0_valveStuckAt rfl rfl rfl (by decide +kernel) ⟨Nat.le_of_ble_eq_true rfl, Nat.le_of_ble_eq_true rfl⟩) hK hN hP hD hS hA [1] rfl rfl rfl (ws' := [(h, oX8 r G), ((r 1), oX0 F)]) rfl rfl hl.1 rfl (Nat.le_of_ble_eq_true rfl) dX8_valve_28 ⟨Nat.le_refl _, Nat.le_refl _⟩ (fun H locs hP hD hS => ?_)
      refine lv_istore_n (lv' := [(3, .int (sp_X0_valveStuckAt F k0)), (0, .ref h), (1, .int k0), (2, .int v)]) hx hb dX8_valve_31 rfl hl (by decide) rfl (fun ls hl => ?_)
      refine lv_aload_n hx hb dX8_valve_32 rfl (lv_at hl 1 rfl) ?_
      refine k_get hx hb hts hi8 hown hK hP 0 rfl rfl 1 (by decide) hf19 (.ref (r 1)) rfl dX8_valve_33 ?_
      refine lv_iload_n hx hb dX8_valve_36 rfl (lv_at hl 2 rfl) ?_
      refine lv_iload_n hx hb dX8_valve_37 rfl (lv_at hl 3 rfl) ?_
      obtain ⟨F_3, eF_3⟩ : ∃ q : Nat → Int32, q = (sp_X0_setValve F k0 v) := ⟨_, rfl⟩
      refine k_Vv ⟨hx, hb, hml, hown, hts⟩ (c_X0_setValve l D cI cJ cO (r 1) F k0 v) (ci := 0) (q0 := 1) rfl rfl (cwV 2 hts gX8_valve_X0_setValve rfl rfl rfl (by decide +kernel) ⟨Nat.le_of_ble_eq_true rfl, Nat.le_of_ble_eq_true rfl⟩) hK hN hP hD hS hA [1] rfl rfl rfl (ws' := [(h, oX8 r G), ((r 1), oX0 F_3)]) (by rw [eF_3]; rfl) rfl hl.1 rfl (Nat.le_of_ble_eq_true rfl) dX8_valve_38 ⟨Nat.le_refl _, Nat.le_refl _⟩ (fun H locs hP hD hS => ?_)
      refine lv_iload_n hx hb dX8_valve_41 rfl (lv_at hl 0 rfl) ?_
      have hsp : sp_X8_valve G F k0 v = ((sp_X0_valveStuckAt F k0), F_3) := sq_X8_valve_1 G F k0 v F_3 eF_3 c_1 c_2
      exact hret _ _ _ _ _ (by rw [hsp]) rfl (by rw [hsp]; exact hP) hS dX8_valve_42
    · skip
      refine lv_bipush (v := (-2)) hx hb dX8_valve_20 (by decide +kernel) ?_
      have hsp : sp_X8_valve G F k0 v = ((-2), F) := by simp only [sp_X8_valve, if_neg c_1, if_pos c_2]
      exact hret _ _ _ _ _ (by rw [hsp]) rfl (by rw [hsp]; exact hP) hS dX8_valve_22
  · skip
    refine lv_iconst (v := (-1)) hx hb dX8_valve_9 (by decide +kernel) ?_
    have hsp : sp_X8_valve G F k0 v = ((-1), F) := by simp only [sp_X8_valve, if_pos c_1]
    exact hret _ _ _ _ _ (by rw [hsp]) rfl (by rw [hsp]; exact hP) hS dX8_valve_10

def sp_X8_now (G : Nat → Int32) (P : Nat → Int32) (what : Int32) : Int32 :=
  (sp_X2_part P what)
set_option maxHeartbeats 4000000 in
set_option maxRecDepth 100000 in
theorem c_X8_now (l : Launch) (D : va_G) (cI cJ cO : ClassId) (h : Nat) (r : Nat → Nat) (G : Nat → Int32) (P : Nat → Int32) (what : Int32)  : MI l D (TY cI cJ cO) yX8_now wsX8_now (RM 1) [.ref h, .int what] [(h, oX8 r G), ((r 2), oX2 (r 0) (r 1) P)] (sp_X8_now G P what) [(h, oX8 r G), ((r 2), oX2 (r 0) (r 1) P)] := by
  refine k_entI (cc := cX8_now) (maxL := 2) (lv := [(0, .ref h), (1, .int what)]) (by decide +kernel) rfl (Nat.le_of_ble_eq_true rfl) rfl ?_
  intro p e s m below meth c A Q ls hx hb hml hts hown hA hS hP hD hK hN hl hret
  have hown : s.vm.findClass RX8 = some m.cls := hown
  have hi8 : ∀ w ∈ wsX80, w ∈ wsX8_now := fun w h => List.mem_cons_of_mem _ (List.mem_append_left _ (List.mem_append_right _ h))
  have hf28 := hts (.fieldLink RX8 28 "PressGuard" "press" "LPressGuard$Press;") (by decide +kernel)
  refine lv_aload_n hx hb dX8_now_0 rfl (lv_at hl 0 rfl) ?_
  refine k_get hx hb hts hi8 hown hK hP 0 rfl rfl 2 (by decide) hf28 (.ref (r 2)) rfl dX8_now_1 ?_
  refine lv_iload_n hx hb dX8_now_4 rfl (lv_at hl 1 rfl) ?_
  refine k_Vi ⟨hx, hb, hml, hown, hts⟩ (c_X2_part l D cI cJ cO (r 2) (r 0) (r 1) P what) (ci := 2) (q0 := 1) rfl rfl (cwV 1 hts gX8_now_X2_part rfl rfl rfl (by decide +kernel) ⟨Nat.le_of_ble_eq_true rfl, Nat.le_of_ble_eq_true rfl⟩) hK hN hP hD hS hA [1] rfl rfl rfl (ws' := [(h, oX8 r G), ((r 2), oX2 (r 0) (r 1) P)]) rfl rfl hl.1 rfl (Nat.le_of_ble_eq_true rfl) dX8_now_5 ⟨Nat.le_refl _, Nat.le_refl _⟩ (fun H locs hP hD hS => ?_)
  have hsp : sp_X8_now G P what = (sp_X2_part P what) := rfl
  exact hret _ _ _ _ _ (by rw [hsp]) rfl hP hS dX8_now_8

def sp_X8_setting (G : Nat → Int32) (S : Nat → Int32) (what : Int32) : Int32 :=
  (sp_X5_part S what)
set_option maxHeartbeats 4000000 in
set_option maxRecDepth 100000 in
theorem c_X8_setting (l : Launch) (D : va_G) (cI cJ cO : ClassId) (h : Nat) (r : Nat → Nat) (G : Nat → Int32) (S : Nat → Int32) (what : Int32)  : MI l D (TY cI cJ cO) yX8_setting wsX8_setting (RM 1) [.ref h, .int what] [(h, oX8 r G), ((r 0), oX5 S)] (sp_X8_setting G S what) [(h, oX8 r G), ((r 0), oX5 S)] := by
  refine k_entI (cc := cX8_setting) (maxL := 2) (lv := [(0, .ref h), (1, .int what)]) (by decide +kernel) rfl (Nat.le_of_ble_eq_true rfl) rfl ?_
  intro p e s m below meth c A Q ls hx hb hml hts hown hA hS hP hD hK hN hl hret
  have hown : s.vm.findClass RX8 = some m.cls := hown
  have hi8 : ∀ w ∈ wsX80, w ∈ wsX8_setting := fun w h => List.mem_cons_of_mem _ (List.mem_append_left _ (List.mem_append_right _ h))
  have hf10 := hts (.fieldLink RX8 10 "PressGuard" "settings" "LPressGuard$Settings;") (by decide +kernel)
  refine lv_aload_n hx hb dX8_setting_0 rfl (lv_at hl 0 rfl) ?_
  refine k_get hx hb hts hi8 hown hK hP 0 rfl rfl 0 (by decide) hf10 (.ref (r 0)) rfl dX8_setting_1 ?_
  refine lv_iload_n hx hb dX8_setting_4 rfl (lv_at hl 1 rfl) ?_
  refine k_Vi ⟨hx, hb, hml, hown, hts⟩ (c_X5_part l D cI cJ cO (r 0) S what) (ci := 5) (q0 := 1) rfl rfl (cwV 1 hts gX8_setting_X5_part rfl rfl rfl (by decide +kernel) ⟨Nat.le_of_ble_eq_true rfl, Nat.le_of_ble_eq_true rfl⟩) hK hN hP hD hS hA [1] rfl rfl rfl (ws' := [(h, oX8 r G), ((r 0), oX5 S)]) rfl rfl hl.1 rfl (Nat.le_of_ble_eq_true rfl) dX8_setting_5 ⟨Nat.le_refl _, Nat.le_refl _⟩ (fun H locs hP hD hS => ?_)
  have hsp : sp_X8_setting G S what = (sp_X5_part S what) := rfl
  exact hret _ _ _ _ _ (by rw [hsp]) rfl hP hS dX8_setting_8

def sp_X8_advanceNoted (G : Nat → Int32) (S : Nat → Int32) (F : Nat → Int32) (P : Nat → Int32) (N : Nat → Int32) (n0 : Nat → Int32) (n1 : Nat → Int32) (n2 : Nat → Int32) (set : Int32) : (Nat → Int32) × (Nat → Int32) × (Nat → Int32) × (Nat → Int32) × (Nat → Int32) :=
  let P_1 : Nat → Int32 := (sp_X2_advance P S F set)
  let N_2 : Nat → Int32 := ((sp_X1_addTick N n0 n1 n2 (P 2) (P_1 2)).1)
  let n_3 : Nat → Int32 := ((sp_X1_addTick N n0 n1 n2 (P 2) (P_1 2)).2)
  let z_4 : Nat → Int32 := (if (P 2) = 0 then N_2 else (if (P_1 2) = 0 then (let N_5 : Nat → Int32 := ((sp_X1_addLock N_2 n0 n1 n_3 (P_1 15) (P 12)).1); N_5) else N_2))
  let z_5 : Nat → Int32 := (if (P 2) = 0 then n0 else (if (P_1 2) = 0 then (let n_6 : Nat → Int32 := ((sp_X1_addLock N_2 n0 n1 n_3 (P_1 15) (P 12)).2.1); n_6) else n0))
  let z_6 : Nat → Int32 := (if (P 2) = 0 then n1 else (if (P_1 2) = 0 then (let n_7 : Nat → Int32 := ((sp_X1_addLock N_2 n0 n1 n_3 (P_1 15) (P 12)).2.2); n_7) else n1))
  (P_1, z_4, z_5, z_6, n_3)
set_option maxRecDepth 100000 in
theorem sq_X8_advanceNoted_1 (G : Nat → Int32) (S : Nat → Int32) (F : Nat → Int32) (P : Nat → Int32) (N : Nat → Int32) (n0 : Nat → Int32) (n1 : Nat → Int32) (n2 : Nat → Int32) (set : Int32) (P_1 : Nat → Int32) (N_2 : Nat → Int32) (n_3 : Nat → Int32) (z_4 : Nat → Int32) (z_5 : Nat → Int32) (z_6 : Nat → Int32) (eP_1 : P_1 = (sp_X2_advance P S F set)) (eN_2 : N_2 = ((sp_X1_addTick N n0 n1 n2 (P 2) (P_1 2)).1)) (en_3 : n_3 = ((sp_X1_addTick N n0 n1 n2 (P 2) (P_1 2)).2)) (ez_4 : z_4 = (if (P 2) = 0 then N_2 else (if (P_1 2) = 0 then (let N_5 : Nat → Int32 := ((sp_X1_addLock N_2 n0 n1 n_3 (P_1 15) (P 12)).1); N_5) else N_2))) (ez_5 : z_5 = (if (P 2) = 0 then n0 else (if (P_1 2) = 0 then (let n_6 : Nat → Int32 := ((sp_X1_addLock N_2 n0 n1 n_3 (P_1 15) (P 12)).2.1); n_6) else n0))) (ez_6 : z_6 = (if (P 2) = 0 then n1 else (if (P_1 2) = 0 then (let n_7 : Nat → Int32 := ((sp_X1_addLock N_2 n0 n1 n_3 (P_1 15) (P 12)).2.2); n_7) else n1))) : sp_X8_advanceNoted G S F P N n0 n1 n2 set = (P_1, z_4, z_5, z_6, n_3) := by subst ez_6; subst ez_5; subst ez_4; subst en_3; subst eN_2; subst eP_1; rfl
set_option maxHeartbeats 4000000 in
set_option maxRecDepth 100000 in
theorem c_X8_advanceNoted (l : Launch) (D : va_G) (cI cJ cO : ClassId) (h : Nat) (r : Nat → Nat) (na : Nat) (nb : Nat) (nc : Nat) (G : Nat → Int32) (S : Nat → Int32) (F : Nat → Int32) (P : Nat → Int32) (N : Nat → Int32) (n0 : Nat → Int32) (n1 : Nat → Int32) (n2 : Nat → Int32) (set : Int32) (hk : ¬ N 3 < 0) : MV l D (TY cI cJ cO) yX8_advanceNoted wsX8_advanceNoted (RM 4) [.ref h, .int set] [(h, oX8 r G), ((r 0), oX5 S), ((r 1), oX0 F), ((r 2), oX2 (r 0) (r 1) P), ((r 4), oX1 na nb nc N), (na, .inl (cI, 90, .inl n0)), (nb, .inl (cI, 5, .inl n1)), (nc, .inl (cI, 5, .inl n2))] [(h, oX8 r G), ((r 0), oX5 S), ((r 1), oX0 F), ((r 2), oX2 (r 0) (r 1) ((sp_X8_advanceNoted G S F P N n0 n1 n2 set).1)), ((r 4), oX1 na nb nc ((sp_X8_advanceNoted G S F P N n0 n1 n2 set).2.1)), (na, .inl (cI, 90, .inl ((sp_X8_advanceNoted G S F P N n0 n1 n2 set).2.2.1))), (nb, .inl (cI, 5, .inl ((sp_X8_advanceNoted G S F P N n0 n1 n2 set).2.2.2.1))), (nc, .inl (cI, 5, .inl ((sp_X8_advanceNoted G S F P N n0 n1 n2 set).2.2.2.2)))] := by
  refine k_entV (cc := cX8_advanceNoted) (maxL := 4) (lv := [(0, .ref h), (1, .int set)]) (by decide +kernel) rfl (Nat.le_of_ble_eq_true rfl) rfl ?_
  intro p e s m below meth c A Q ls hx hb hml hts hown hA hS hP hD hK hN hl hret
  have hown : s.vm.findClass RX8 = some m.cls := hown
  have hi2 : ∀ w ∈ wsX20, w ∈ wsX8_advanceNoted := fun w h => List.mem_cons_of_mem _ (List.mem_append_left _ (List.mem_append_left _ (List.mem_append_left _ (List.mem_append_right _ h))))
  have hi8 : ∀ w ∈ wsX80, w ∈ wsX8_advanceNoted := fun w h => List.mem_cons_of_mem _ (List.mem_append_left _ (List.mem_append_left _ (List.mem_append_left _ (List.mem_append_left _ (List.mem_append_right _ h)))))
  have hf28 := hts (.fieldLink RX8 28 "PressGuard" "press" "LPressGuard$Press;") (by decide +kernel)
  have hf38 := hts (.fieldLink RX8 38 "PressGuard" "notes" "LPressGuard$Notes;") (by decide +kernel)
  have hf113 := hts (.fieldLink RX8 113 "PressGuard$Press" "mode" "I") (by decide +kernel)
  have hf193 := hts (.fieldLink RX8 193 "PressGuard$Press" "position" "I") (by decide +kernel)
  have hf199 := hts (.fieldLink RX8 199 "PressGuard$Press" "lockedBy" "I") (by decide +kernel)
  refine lv_aload_n hx hb dX8_advanceNoted_0 rfl (lv_at hl 0 rfl) ?_
  refine k_get hx hb hts hi8 hown hK hP 0 rfl rfl 2 (by decide) hf28 (.ref (r 2)) rfl dX8_advanceNoted_1 ?_
  refine k_get hx hb hts hi2 hown hK hP 3 rfl rfl 2 (by decide) hf113 (.int (P 2)) rfl dX8_advanceNoted_4 ?_
  refine lv_istore_n (lv' := [(2, .int (P 2)), (0, .ref h), (1, .int set)]) hx hb dX8_advanceNoted_7 rfl hl (by decide) rfl (fun ls hl => ?_)
  refine lv_aload_n hx hb dX8_advanceNoted_8 rfl (lv_at hl 1 rfl) ?_
  refine k_get hx hb hts hi8 hown hK hP 0 rfl rfl 2 (by decide) hf28 (.ref (r 2)) rfl dX8_advanceNoted_9 ?_
  refine k_get hx hb hts hi2 hown hK hP 3 rfl rfl 12 (by decide) hf193 (.int (P 12)) rfl dX8_advanceNoted_12 ?_
  refine lv_istore_n (lv' := [(3, .int (P 12)), (2, .int (P 2)), (0, .ref h), (1, .int set)]) hx hb dX8_advanceNoted_15 rfl hl (by decide) rfl (fun ls hl => ?_)
  refine lv_aload_n hx hb dX8_advanceNoted_16 rfl (lv_at hl 2 rfl) ?_
  refine k_get hx hb hts hi8 hown hK hP 0 rfl rfl 2 (by decide) hf28 (.ref (r 2)) rfl dX8_advanceNoted_17 ?_
  refine lv_iload_n hx hb dX8_advanceNoted_20 rfl (lv_at hl 3 rfl) ?_
  obtain ⟨P_1, eP_1⟩ : ∃ q : Nat → Int32, q = (sp_X2_advance P S F set) := ⟨_, rfl⟩
  refine k_Vv ⟨hx, hb, hml, hown, hts⟩ (c_X2_advance l D cI cJ cO (r 2) (r 0) (r 1) P S F set) (ci := 2) (q0 := 3) rfl rfl (cwV 1 hts gX8_advanceNoted_X2_advance rfl rfl rfl (by decide +kernel) ⟨Nat.le_of_ble_eq_true rfl, Nat.le_of_ble_eq_true rfl⟩) hK hN hP hD hS hA [3, 1, 2] rfl rfl rfl (ws' := [(h, oX8 r G), ((r 0), oX5 S), ((r 1), oX0 F), ((r 2), oX2 (r 0) (r 1) P_1), ((r 4), oX1 na nb nc N), (na, .inl (cI, 90, .inl n0)), (nb, .inl (cI, 5, .inl n1)), (nc, .inl (cI, 5, .inl n2))]) (by rw [eP_1]; rfl) rfl hl.1 rfl (Nat.le_of_ble_eq_true rfl) dX8_advanceNoted_21 ⟨Nat.le_refl _, Nat.le_refl _⟩ (fun H locs hP hD hS => ?_)
  refine lv_aload_n hx hb dX8_advanceNoted_24 rfl (lv_at hl 2 rfl) ?_
  refine k_get hx hb hts hi8 hown hK hP 0 rfl rfl 4 (by decide) hf38 (.ref (r 4)) rfl dX8_advanceNoted_25 ?_
  refine lv_iload_n hx hb dX8_advanceNoted_28 rfl (lv_at hl 1 rfl) ?_
  refine lv_aload_n hx hb dX8_advanceNoted_29 rfl (lv_at hl 2 rfl) ?_
  refine k_get hx hb hts hi8 hown hK hP 0 rfl rfl 2 (by decide) hf28 (.ref (r 2)) rfl dX8_advanceNoted_30 ?_
  refine k_get hx hb hts hi2 hown hK hP 3 rfl rfl 2 (by decide) hf113 (.int (P_1 2)) rfl dX8_advanceNoted_33 ?_
  obtain ⟨N_2, eN_2⟩ : ∃ q : Nat → Int32, q = ((sp_X1_addTick N n0 n1 n2 (P 2) (P_1 2)).1) := ⟨_, rfl⟩
  obtain ⟨n_3, en_3⟩ : ∃ q : Nat → Int32, q = ((sp_X1_addTick N n0 n1 n2 (P 2) (P_1 2)).2) := ⟨_, rfl⟩
  refine k_Vv ⟨hx, hb, hml, hown, hts⟩ (c_X1_addTick l D cI cJ cO (r 4) na nb nc N n0 n1 n2 (P 2) (P_1 2)) (ci := 1) (q0 := 4) rfl rfl (cwV 2 hts gX8_advanceNoted_X1_addTick rfl rfl rfl (by decide +kernel) ⟨Nat.le_of_ble_eq_true rfl, Nat.le_of_ble_eq_true rfl⟩) hK hN hP hD hS hA [4, 5, 6, 7] rfl rfl rfl (ws' := [(h, oX8 r G), ((r 0), oX5 S), ((r 1), oX0 F), ((r 2), oX2 (r 0) (r 1) P_1), ((r 4), oX1 na nb nc N_2), (na, .inl (cI, 90, .inl n0)), (nb, .inl (cI, 5, .inl n1)), (nc, .inl (cI, 5, .inl n_3))]) (by rw [eN_2, en_3]; rfl) rfl hl.1 rfl (Nat.le_of_ble_eq_true rfl) dX8_advanceNoted_36 ⟨Nat.le_refl _, Nat.le_refl _⟩ (fun H locs hP hD hS => ?_)
  refine lv_iload_n hx hb dX8_advanceNoted_39 rfl (lv_at hl 1 rfl) ?_
  have J_7 : ∀ z_4 : Nat → Int32, z_4 = (if (P 2) = 0 then N_2 else (if (P_1 2) = 0 then (let N_5 : Nat → Int32 := ((sp_X1_addLock N_2 n0 n1 n_3 (P_1 15) (P 12)).1); N_5) else N_2)) → ∀ z_5 : Nat → Int32, z_5 = (if (P 2) = 0 then n0 else (if (P_1 2) = 0 then (let n_6 : Nat → Int32 := ((sp_X1_addLock N_2 n0 n1 n_3 (P_1 15) (P 12)).2.1); n_6) else n0)) → ∀ z_6 : Nat → Int32, z_6 = (if (P 2) = 0 then n1 else (if (P_1 2) = 0 then (let n_7 : Nat → Int32 := ((sp_X1_addLock N_2 n0 n1 n_3 (P_1 15) (P 12)).2.2); n_7) else n1)) → ∀ (H : Heap) (locs : List Loc), va_P D vwCl [(h, oX8 r G), ((r 0), oX5 S), ((r 1), oX0 F), ((r 2), oX2 (r 0) (r 1) P_1), ((r 4), oX1 na nb nc z_4), (na, .inl (cI, 90, .inl z_5)), (nb, .inl (cI, 5, .inl z_6)), (nc, .inl (cI, 5, .inl n_3))] H → va_D A [(h, oX8 r G), ((r 0), oX5 S), ((r 1), oX0 F), ((r 2), oX2 (r 0) (r 1) P_1), ((r 4), oX1 na nb nc z_4), (na, .inl (cI, 90, .inl z_5)), (nb, .inl (cI, 5, .inl z_6)), (nc, .inl (cI, 5, .inl n_3))] → va_S A s.heap H locs → ∀ ls : Array Slot, lv_has ls 4 [] → W p l e (RM 4) s m ([.ref h, .int set] : List Value).toArray below meth c H locs 0 0 Q (F0 m 68 ls []) := by
    intro z_4 ez_4 z_5 ez_5 z_6 ez_6 H locs hP hD hS ls hl
    have hsp : sp_X8_advanceNoted G S F P N n0 n1 n2 set = (P_1, z_4, z_5, z_6, n_3) := sq_X8_advanceNoted_1 G S F P N n0 n1 n2 set P_1 N_2 n_3 z_4 z_5 z_6 eP_1 eN_2 en_3 ez_4 ez_5 ez_6
    exact hret _ _ _ _ (by rw [hsp]; exact hP) hS dX8_advanceNoted_68
  refine lv_if_eq (tgt := 68) hx hb dX8_advanceNoted_40 (by decide) (fun c_8 => ?_) (fun c_8 => ?_)
  · skip
    exact J_7 N_2 (by first | (simp only [if_pos c_8]; done) | rfl) n0 (by first | (simp only [if_pos c_8]; done) | rfl) n1 (by first | (simp only [if_pos c_8]; done) | rfl) _ _ hP hD hS _ (lv_sub hl [] rfl)
  · skip
    refine lv_aload_n hx hb dX8_advanceNoted_43 rfl (lv_at hl 2 rfl) ?_
    refine k_get hx hb hts hi8 hown hK hP 0 rfl rfl 2 (by decide) hf28 (.ref (r 2)) rfl dX8_advanceNoted_44 ?_
    refine k_get hx hb hts hi2 hown hK hP 3 rfl rfl 2 (by decide) hf113 (.int (P_1 2)) rfl dX8_advanceNoted_47 ?_
    refine lv_if_ne (tgt := 68) hx hb dX8_advanceNoted_50 (by decide) (fun c_9 => ?_) (fun c_9 => ?_)
    · skip
      exact J_7 N_2 (by first | (simp only [if_neg c_8, if_neg c_9]; done) | rfl) n0 (by first | (simp only [if_neg c_8, if_neg c_9]; done) | rfl) n1 (by first | (simp only [if_neg c_8, if_neg c_9]; done) | rfl) _ _ hP hD hS _ (lv_sub hl [] rfl)
    · skip
      refine lv_aload_n hx hb dX8_advanceNoted_53 rfl (lv_at hl 2 rfl) ?_
      refine k_get hx hb hts hi8 hown hK hP 0 rfl rfl 4 (by decide) hf38 (.ref (r 4)) rfl dX8_advanceNoted_54 ?_
      refine lv_aload_n hx hb dX8_advanceNoted_57 rfl (lv_at hl 2 rfl) ?_
      refine k_get hx hb hts hi8 hown hK hP 0 rfl rfl 2 (by decide) hf28 (.ref (r 2)) rfl dX8_advanceNoted_58 ?_
      refine k_get hx hb hts hi2 hown hK hP 3 rfl rfl 15 (by decide) hf199 (.int (P_1 15)) rfl dX8_advanceNoted_61 ?_
      refine lv_iload_n hx hb dX8_advanceNoted_64 rfl (lv_at hl 0 rfl) ?_
      obtain ⟨N_10, eN_10⟩ : ∃ q : Nat → Int32, q = ((sp_X1_addLock N_2 n0 n1 n_3 (P_1 15) (P 12)).1) := ⟨_, rfl⟩
      obtain ⟨n_11, en_11⟩ : ∃ q : Nat → Int32, q = ((sp_X1_addLock N_2 n0 n1 n_3 (P_1 15) (P 12)).2.1) := ⟨_, rfl⟩
      obtain ⟨n_12, en_12⟩ : ∃ q : Nat → Int32, q = ((sp_X1_addLock N_2 n0 n1 n_3 (P_1 15) (P 12)).2.2) := ⟨_, rfl⟩
      refine k_Vv ⟨hx, hb, hml, hown, hts⟩ (c_X1_addLock l D cI cJ cO (r 4) na nb nc N_2 n0 n1 n_3 (P_1 15) (P 12) (by rw [eN_2, addTick_3]; exact hk)) (ci := 1) (q0 := 4) rfl rfl (cwV 2 hts gX8_advanceNoted_X1_addLock rfl rfl rfl (by decide +kernel) ⟨Nat.le_of_ble_eq_true rfl, Nat.le_of_ble_eq_true rfl⟩) hK hN hP hD hS hA [4, 5, 6, 7] rfl rfl rfl (ws' := [(h, oX8 r G), ((r 0), oX5 S), ((r 1), oX0 F), ((r 2), oX2 (r 0) (r 1) P_1), ((r 4), oX1 na nb nc N_10), (na, .inl (cI, 90, .inl n_11)), (nb, .inl (cI, 5, .inl n_12)), (nc, .inl (cI, 5, .inl n_3))]) (by rw [eN_10, en_11, en_12]; rfl) rfl hl.1 rfl (Nat.le_of_ble_eq_true rfl) dX8_advanceNoted_65 ⟨Nat.le_refl _, Nat.le_refl _⟩ (fun H locs hP hD hS => ?_)
      exact J_7 N_10 (by subst en_12; subst en_11; subst eN_10; first | (simp only [if_neg c_8, if_pos c_9]; done) | rfl) n_11 (by subst en_12; subst en_11; subst eN_10; first | (simp only [if_neg c_8, if_pos c_9]; done) | rfl) n_12 (by subst en_12; subst en_11; subst eN_10; first | (simp only [if_neg c_8, if_pos c_9]; done) | rfl) _ _ hP hD hS _ (lv_sub hl [] rfl)

def sp_X8_tick (G : Nat → Int32) (S : Nat → Int32) (F : Nat → Int32) (P : Nat → Int32) (N : Nat → Int32) (n0 : Nat → Int32) (n1 : Nat → Int32) (n2 : Nat → Int32) (set : Int32) : Int32 × (Nat → Int32) × (Nat → Int32) × (Nat → Int32) × (Nat → Int32) × (Nat → Int32) :=
  (if (sp_X8_isSet set) = 0 then
    ((-2), P, N, n0, n1, n2)
  else
    let P_2 : Nat → Int32 := ((sp_X8_advanceNoted G S F P N n0 n1 n2 set).1)
    let N_3 : Nat → Int32 := ((sp_X8_advanceNoted G S F P N n0 n1 n2 set).2.1)
    let n_4 : Nat → Int32 := ((sp_X8_advanceNoted G S F P N n0 n1 n2 set).2.2.1)
    let n_5 : Nat → Int32 := ((sp_X8_advanceNoted G S F P N n0 n1 n2 set).2.2.2.1)
    let n_6 : Nat → Int32 := ((sp_X8_advanceNoted G S F P N n0 n1 n2 set).2.2.2.2)
    ((P_2 2), P_2, N_3, n_4, n_5, n_6))
set_option maxRecDepth 100000 in
theorem sq_X8_tick_1 (G : Nat → Int32) (S : Nat → Int32) (F : Nat → Int32) (P : Nat → Int32) (N : Nat → Int32) (n0 : Nat → Int32) (n1 : Nat → Int32) (n2 : Nat → Int32) (set : Int32) (P_2 : Nat → Int32) (N_3 : Nat → Int32) (n_4 : Nat → Int32) (n_5 : Nat → Int32) (n_6 : Nat → Int32) (eP_2 : P_2 = ((sp_X8_advanceNoted G S F P N n0 n1 n2 set).1)) (eN_3 : N_3 = ((sp_X8_advanceNoted G S F P N n0 n1 n2 set).2.1)) (en_4 : n_4 = ((sp_X8_advanceNoted G S F P N n0 n1 n2 set).2.2.1)) (en_5 : n_5 = ((sp_X8_advanceNoted G S F P N n0 n1 n2 set).2.2.2.1)) (en_6 : n_6 = ((sp_X8_advanceNoted G S F P N n0 n1 n2 set).2.2.2.2)) (c_1 : ¬ ((sp_X8_isSet set) = 0)) : sp_X8_tick G S F P N n0 n1 n2 set = ((P_2 2), P_2, N_3, n_4, n_5, n_6) := by subst en_6; subst en_5; subst en_4; subst eN_3; subst eP_2; simp only [sp_X8_tick, if_neg c_1]
set_option maxHeartbeats 4000000 in
set_option maxRecDepth 100000 in
theorem c_X8_tick (l : Launch) (D : va_G) (cI cJ cO : ClassId) (h : Nat) (r : Nat → Nat) (na : Nat) (nb : Nat) (nc : Nat) (G : Nat → Int32) (S : Nat → Int32) (F : Nat → Int32) (P : Nat → Int32) (N : Nat → Int32) (n0 : Nat → Int32) (n1 : Nat → Int32) (n2 : Nat → Int32) (set : Int32) (hk : ¬ N 3 < 0) : MI l D (TY cI cJ cO) yX8_tick wsX8_tick (RM 5) [.ref h, .int set] [(h, oX8 r G), ((r 0), oX5 S), ((r 1), oX0 F), ((r 2), oX2 (r 0) (r 1) P), ((r 4), oX1 na nb nc N), (na, .inl (cI, 90, .inl n0)), (nb, .inl (cI, 5, .inl n1)), (nc, .inl (cI, 5, .inl n2))] ((sp_X8_tick G S F P N n0 n1 n2 set).1) [(h, oX8 r G), ((r 0), oX5 S), ((r 1), oX0 F), ((r 2), oX2 (r 0) (r 1) ((sp_X8_tick G S F P N n0 n1 n2 set).2.1)), ((r 4), oX1 na nb nc ((sp_X8_tick G S F P N n0 n1 n2 set).2.2.1)), (na, .inl (cI, 90, .inl ((sp_X8_tick G S F P N n0 n1 n2 set).2.2.2.1))), (nb, .inl (cI, 5, .inl ((sp_X8_tick G S F P N n0 n1 n2 set).2.2.2.2.1))), (nc, .inl (cI, 5, .inl ((sp_X8_tick G S F P N n0 n1 n2 set).2.2.2.2.2)))] := by
  refine k_entI (cc := cX8_tick) (maxL := 2) (lv := [(0, .ref h), (1, .int set)]) (by decide +kernel) rfl (Nat.le_of_ble_eq_true rfl) rfl ?_
  intro p e s m below meth c A Q ls hx hb hml hts hown hA hS hP hD hK hN hl hret
  have hown : s.vm.findClass RX8 = some m.cls := hown
  have hi2 : ∀ w ∈ wsX20, w ∈ wsX8_tick := fun w h => List.mem_cons_of_mem _ (List.mem_append_left _ (List.mem_append_left _ (List.mem_append_left _ (List.mem_append_right _ h))))
  have hi8 : ∀ w ∈ wsX80, w ∈ wsX8_tick := fun w h => List.mem_cons_of_mem _ (List.mem_append_left _ (List.mem_append_left _ (List.mem_append_left _ (List.mem_append_left _ (List.mem_append_right _ h)))))
  have hf28 := hts (.fieldLink RX8 28 "PressGuard" "press" "LPressGuard$Press;") (by decide +kernel)
  have hf113 := hts (.fieldLink RX8 113 "PressGuard$Press" "mode" "I") (by decide +kernel)
  refine lv_iload_n hx hb dX8_tick_0 rfl (lv_at hl 1 rfl) ?_
  refine k_Si ⟨hx, hb, hml, hown, hts⟩ (c_X8_isSet l D cI cJ cO set) (va_cwS 1 hts gX8_tick_X8_isSet rfl rfl rfl (by decide +kernel) ⟨Nat.le_of_ble_eq_true rfl, Nat.le_of_ble_eq_true rfl⟩) hK hN hP hD hS hA [] rfl rfl rfl (ws' := [(h, oX8 r G), ((r 0), oX5 S), ((r 1), oX0 F), ((r 2), oX2 (r 0) (r 1) P), ((r 4), oX1 na nb nc N), (na, .inl (cI, 90, .inl n0)), (nb, .inl (cI, 5, .inl n1)), (nc, .inl (cI, 5, .inl n2))]) rfl rfl hl.1 rfl (Nat.le_of_ble_eq_true rfl) dX8_tick_1 ⟨Nat.le_refl _, Nat.le_refl _⟩ (fun H locs hP hD hS => ?_)
  refine lv_if_ne (tgt := 10) hx hb dX8_tick_4 (by decide) (fun c_1 => ?_) (fun c_1 => ?_)
  · skip
    refine lv_aload_n hx hb dX8_tick_10 rfl (lv_at hl 0 rfl) ?_
    refine lv_iload_n hx hb dX8_tick_11 rfl (lv_at hl 1 rfl) ?_
    obtain ⟨P_2, eP_2⟩ : ∃ q : Nat → Int32, q = ((sp_X8_advanceNoted G S F P N n0 n1 n2 set).1) := ⟨_, rfl⟩
    obtain ⟨N_3, eN_3⟩ : ∃ q : Nat → Int32, q = ((sp_X8_advanceNoted G S F P N n0 n1 n2 set).2.1) := ⟨_, rfl⟩
    obtain ⟨n_4, en_4⟩ : ∃ q : Nat → Int32, q = ((sp_X8_advanceNoted G S F P N n0 n1 n2 set).2.2.1) := ⟨_, rfl⟩
    obtain ⟨n_5, en_5⟩ : ∃ q : Nat → Int32, q = ((sp_X8_advanceNoted G S F P N n0 n1 n2 set).2.2.2.1) := ⟨_, rfl⟩
    obtain ⟨n_6, en_6⟩ : ∃ q : Nat → Int32, q = ((sp_X8_advanceNoted G S F P N n0 n1 n2 set).2.2.2.2) := ⟨_, rfl⟩
    refine k_Vv ⟨hx, hb, hml, hown, hts⟩ (c_X8_advanceNoted l D cI cJ cO h r na nb nc G S F P N n0 n1 n2 set hk) (ci := 8) (q0 := 0) rfl rfl (cwV 1 hts gX8_tick_X8_advanceNoted rfl rfl rfl (by decide +kernel) ⟨Nat.le_of_ble_eq_true rfl, Nat.le_of_ble_eq_true rfl⟩) hK hN hP hD hS hA [0, 1, 2, 3, 4, 5, 6, 7] rfl rfl rfl (ws' := [(h, oX8 r G), ((r 0), oX5 S), ((r 1), oX0 F), ((r 2), oX2 (r 0) (r 1) P_2), ((r 4), oX1 na nb nc N_3), (na, .inl (cI, 90, .inl n_4)), (nb, .inl (cI, 5, .inl n_5)), (nc, .inl (cI, 5, .inl n_6))]) (by rw [eP_2, eN_3, en_4, en_5, en_6]; rfl) rfl hl.1 rfl (Nat.le_of_ble_eq_true rfl) dX8_tick_12 ⟨Nat.le_refl _, Nat.le_refl _⟩ (fun H locs hP hD hS => ?_)
    refine lv_aload_n hx hb dX8_tick_15 rfl (lv_at hl 0 rfl) ?_
    refine k_get hx hb hts hi8 hown hK hP 0 rfl rfl 2 (by decide) hf28 (.ref (r 2)) rfl dX8_tick_16 ?_
    refine k_get hx hb hts hi2 hown hK hP 3 rfl rfl 2 (by decide) hf113 (.int (P_2 2)) rfl dX8_tick_19 ?_
    have hsp : sp_X8_tick G S F P N n0 n1 n2 set = ((P_2 2), P_2, N_3, n_4, n_5, n_6) := sq_X8_tick_1 G S F P N n0 n1 n2 set P_2 N_3 n_4 n_5 n_6 eP_2 eN_3 en_4 en_5 en_6 c_1
    exact hret _ _ _ _ _ (by rw [hsp]) rfl (by rw [hsp]; exact hP) hS dX8_tick_22
  · skip
    refine lv_bipush (v := (-2)) hx hb dX8_tick_7 (by decide +kernel) ?_
    have hsp : sp_X8_tick G S F P N n0 n1 n2 set = ((-2), P, N, n0, n1, n2) := by simp only [sp_X8_tick, if_pos c_1]
    exact hret _ _ _ _ _ (by rw [hsp]) rfl (by rw [hsp]; exact hP) hS dX8_tick_9

def bd_X8_ticks_22 (G : Nat → Int32) (S : Nat → Int32) (F : Nat → Int32) (set : Int32) (i_3 : Nat) (x_4 : (Nat → Int32) × (Nat → Int32) × (Nat → Int32) × (Nat → Int32) × (Nat → Int32)) : (Nat → Int32) × (Nat → Int32) × (Nat → Int32) × (Nat → Int32) × (Nat → Int32) :=
  (let P_5 : Nat → Int32 := ((sp_X8_advanceNoted G S F (x_4.1) (x_4.2.1) (x_4.2.2.1) (x_4.2.2.2.1) (x_4.2.2.2.2) set).1); (let N_6 : Nat → Int32 := ((sp_X8_advanceNoted G S F (x_4.1) (x_4.2.1) (x_4.2.2.1) (x_4.2.2.2.1) (x_4.2.2.2.2) set).2.1); (let n_7 : Nat → Int32 := ((sp_X8_advanceNoted G S F (x_4.1) (x_4.2.1) (x_4.2.2.1) (x_4.2.2.2.1) (x_4.2.2.2.2) set).2.2.1); (let n_8 : Nat → Int32 := ((sp_X8_advanceNoted G S F (x_4.1) (x_4.2.1) (x_4.2.2.1) (x_4.2.2.2.1) (x_4.2.2.2.2) set).2.2.2.1); (let n_9 : Nat → Int32 := ((sp_X8_advanceNoted G S F (x_4.1) (x_4.2.1) (x_4.2.2.1) (x_4.2.2.2.1) (x_4.2.2.2.2) set).2.2.2.2); (P_5, N_6, n_7, n_8, n_9))))))
def sp_X8_ticks (G : Nat → Int32) (S : Nat → Int32) (F : Nat → Int32) (P : Nat → Int32) (N : Nat → Int32) (n0 : Nat → Int32) (n1 : Nat → Int32) (n2 : Nat → Int32) (set : Int32) (n : Int32) : Int32 × (Nat → Int32) × (Nat → Int32) × (Nat → Int32) × (Nat → Int32) × (Nat → Int32) :=
  (if (sp_X8_isSet set) = 0 then
    ((-2), P, N, n0, n1, n2)
  else
    (if (sp_X8_within n 0 60) = 0 then
      ((-2), P, N, n0, n1, n2)
    else
      let x_4 : (Nat → Int32) × (Nat → Int32) × (Nat → Int32) × (Nat → Int32) × (Nat → Int32) := lp (bd_X8_ticks_22 G S F set) n.toNatClampNeg (P, N, n0, n1, n2)
      (((x_4.1) 2), (x_4.1), (x_4.2.1), (x_4.2.2.1), (x_4.2.2.2.1), (x_4.2.2.2.2))))
set_option maxRecDepth 100000 in
theorem sq_X8_ticks_1 (G : Nat → Int32) (S : Nat → Int32) (F : Nat → Int32) (P : Nat → Int32) (N : Nat → Int32) (n0 : Nat → Int32) (n1 : Nat → Int32) (n2 : Nat → Int32) (set : Int32) (n : Int32) (x_4 : (Nat → Int32) × (Nat → Int32) × (Nat → Int32) × (Nat → Int32) × (Nat → Int32)) (ex_4 : x_4 = lp (bd_X8_ticks_22 G S F set) n.toNatClampNeg (P, N, n0, n1, n2)) (c_1 : ¬ ((sp_X8_isSet set) = 0)) (c_2 : ¬ ((sp_X8_within n 0 60) = 0)) : sp_X8_ticks G S F P N n0 n1 n2 set n = (((x_4.1) 2), (x_4.1), (x_4.2.1), (x_4.2.2.1), (x_4.2.2.2.1), (x_4.2.2.2.2)) := by subst ex_4; simp only [sp_X8_ticks, if_neg c_1, if_neg c_2]
set_option maxHeartbeats 4000000 in
set_option maxRecDepth 100000 in
theorem c_X8_ticks (l : Launch) (D : va_G) (cI cJ cO : ClassId) (h : Nat) (r : Nat → Nat) (na : Nat) (nb : Nat) (nc : Nat) (G : Nat → Int32) (S : Nat → Int32) (F : Nat → Int32) (P : Nat → Int32) (N : Nat → Int32) (n0 : Nat → Int32) (n1 : Nat → Int32) (n2 : Nat → Int32) (set : Int32) (n : Int32) (hk : ¬ sp_X8_isSet set = 0 → ¬ sp_X8_within n 0 60 = 0 → ∀ i, i < n.toNatClampNeg → ¬ (lp (bd_X8_ticks_22 G S F set) i (P, N, n0, n1, n2)).2.1 3 < 0) : MI l D (TY cI cJ cO) yX8_ticks wsX8_ticks (RM 5) [.ref h, .int set, .int n] [(h, oX8 r G), ((r 0), oX5 S), ((r 1), oX0 F), ((r 2), oX2 (r 0) (r 1) P), ((r 4), oX1 na nb nc N), (na, .inl (cI, 90, .inl n0)), (nb, .inl (cI, 5, .inl n1)), (nc, .inl (cI, 5, .inl n2))] ((sp_X8_ticks G S F P N n0 n1 n2 set n).1) [(h, oX8 r G), ((r 0), oX5 S), ((r 1), oX0 F), ((r 2), oX2 (r 0) (r 1) ((sp_X8_ticks G S F P N n0 n1 n2 set n).2.1)), ((r 4), oX1 na nb nc ((sp_X8_ticks G S F P N n0 n1 n2 set n).2.2.1)), (na, .inl (cI, 90, .inl ((sp_X8_ticks G S F P N n0 n1 n2 set n).2.2.2.1))), (nb, .inl (cI, 5, .inl ((sp_X8_ticks G S F P N n0 n1 n2 set n).2.2.2.2.1))), (nc, .inl (cI, 5, .inl ((sp_X8_ticks G S F P N n0 n1 n2 set n).2.2.2.2.2)))] := by
  refine k_entI (cc := cX8_ticks) (maxL := 4) (lv := [(0, .ref h), (1, .int set), (2, .int n)]) (by decide +kernel) rfl (Nat.le_of_ble_eq_true rfl) rfl ?_
  intro p e s m below meth c A Q ls hx hb hml hts hown hA hS hP hD hK hN hl hret
  have hown : s.vm.findClass RX8 = some m.cls := hown
  have hi2 : ∀ w ∈ wsX20, w ∈ wsX8_ticks := fun w h => List.mem_cons_of_mem _ (List.mem_append_left _ (List.mem_append_left _ (List.mem_append_left _ (List.mem_append_right _ h))))
  have hi8 : ∀ w ∈ wsX80, w ∈ wsX8_ticks := fun w h => List.mem_cons_of_mem _ (List.mem_append_left _ (List.mem_append_left _ (List.mem_append_left _ (List.mem_append_left _ (List.mem_append_right _ h)))))
  have hf28 := hts (.fieldLink RX8 28 "PressGuard" "press" "LPressGuard$Press;") (by decide +kernel)
  have hf113 := hts (.fieldLink RX8 113 "PressGuard$Press" "mode" "I") (by decide +kernel)
  refine lv_iload_n hx hb dX8_ticks_0 rfl (lv_at hl 1 rfl) ?_
  refine k_Si ⟨hx, hb, hml, hown, hts⟩ (c_X8_isSet l D cI cJ cO set) (va_cwS 1 hts gX8_ticks_X8_isSet rfl rfl rfl (by decide +kernel) ⟨Nat.le_of_ble_eq_true rfl, Nat.le_of_ble_eq_true rfl⟩) hK hN hP hD hS hA [] rfl rfl rfl (ws' := [(h, oX8 r G), ((r 0), oX5 S), ((r 1), oX0 F), ((r 2), oX2 (r 0) (r 1) P), ((r 4), oX1 na nb nc N), (na, .inl (cI, 90, .inl n0)), (nb, .inl (cI, 5, .inl n1)), (nc, .inl (cI, 5, .inl n2))]) rfl rfl hl.1 rfl (Nat.le_of_ble_eq_true rfl) dX8_ticks_1 ⟨Nat.le_refl _, Nat.le_refl _⟩ (fun H locs hP hD hS => ?_)
  refine lv_if_eq (tgt := 17) hx hb dX8_ticks_4 (by decide) (fun c_1 => ?_) (fun c_1 => ?_)
  · skip
    refine lv_bipush (v := (-2)) hx hb dX8_ticks_17 (by decide +kernel) ?_
    have hsp : sp_X8_ticks G S F P N n0 n1 n2 set n = ((-2), P, N, n0, n1, n2) := by simp only [sp_X8_ticks, if_pos c_1]
    exact hret _ _ _ _ _ (by rw [hsp]) rfl (by rw [hsp]; exact hP) hS dX8_ticks_19
  · skip
    refine lv_iload_n hx hb dX8_ticks_7 rfl (lv_at hl 2 rfl) ?_
    refine lv_iconst (v := 0) hx hb dX8_ticks_8 (by decide +kernel) ?_
    refine lv_bipush (v := 60) hx hb dX8_ticks_9 (by decide +kernel) ?_
    refine k_Si ⟨hx, hb, hml, hown, hts⟩ (c_X8_within l D cI cJ cO n 0 60) (va_cwS 3 hts gX8_ticks_X8_within rfl rfl rfl (by decide +kernel) ⟨Nat.le_of_ble_eq_true rfl, Nat.le_of_ble_eq_true rfl⟩) hK hN hP hD hS hA [] rfl rfl rfl (ws' := [(h, oX8 r G), ((r 0), oX5 S), ((r 1), oX0 F), ((r 2), oX2 (r 0) (r 1) P), ((r 4), oX1 na nb nc N), (na, .inl (cI, 90, .inl n0)), (nb, .inl (cI, 5, .inl n1)), (nc, .inl (cI, 5, .inl n2))]) rfl rfl hl.1 rfl (Nat.le_of_ble_eq_true rfl) dX8_ticks_11 ⟨Nat.le_refl _, Nat.le_refl _⟩ (fun H locs hP hD hS => ?_)
    refine lv_if_ne (tgt := 20) hx hb dX8_ticks_14 (by decide) (fun c_2 => ?_) (fun c_2 => ?_)
    · skip
      refine lv_iconst (v := 0) hx hb dX8_ticks_20 (by decide +kernel) ?_
      refine lv_istore_n (lv' := [(3, .int 0), (0, .ref h), (1, .int set), (2, .int n)]) hx hb dX8_ticks_21 rfl hl (by decide) rfl (fun ls hl => ?_)
      obtain ⟨fx_4, hfx_4⟩ : ∃ f : Nat → (Nat → Int32) × (Nat → Int32) × (Nat → Int32) × (Nat → Int32) × (Nat → Int32) → (Nat → Int32) × (Nat → Int32) × (Nat → Int32) × (Nat → Int32) × (Nat → Int32), f = (bd_X8_ticks_22 G S F set) := ⟨_, rfl⟩
      have hB_x_4 : n = nI n.toNatClampNeg := nI_self (wi_ok c_2).1
      have hN_x_4 : n.toNatClampNeg < 2 ^ 31 := clamp_lt _
      have Lx_4 : ∀ (nn i_3 : Nat) (x_4 : (Nat → Int32) × (Nat → Int32) × (Nat → Int32) × (Nat → Int32) × (Nat → Int32)), n.toNatClampNeg + 1 ≤ i_3 + nn → i_3 ≤ n.toNatClampNeg → x_4 = lp fx_4 i_3 (P, N, n0, n1, n2) → ∀ (H : Heap) (locs : List Loc), va_P D vwCl [(h, oX8 r G), ((r 0), oX5 S), ((r 1), oX0 F), ((r 2), oX2 (r 0) (r 1) (x_4.1)), ((r 4), oX1 na nb nc (x_4.2.1)), (na, .inl (cI, 90, .inl (x_4.2.2.1))), (nb, .inl (cI, 5, .inl (x_4.2.2.2.1))), (nc, .inl (cI, 5, .inl (x_4.2.2.2.2)))] H → va_D A [(h, oX8 r G), ((r 0), oX5 S), ((r 1), oX0 F), ((r 2), oX2 (r 0) (r 1) (x_4.1)), ((r 4), oX1 na nb nc (x_4.2.1)), (na, .inl (cI, 90, .inl (x_4.2.2.1))), (nb, .inl (cI, 5, .inl (x_4.2.2.2.1))), (nc, .inl (cI, 5, .inl (x_4.2.2.2.2)))] → va_S A s.heap H locs → ∀ ls : Array Slot, lv_has ls 4 [(0, .ref h), (1, .int set), (2, .int n), (3, .int (nI i_3))] → W p l e (RM 5) s m ([.ref h, .int set, .int n] : List Value).toArray below meth c H locs 0 0 Q (F0 m 22 ls []) := by
        intro nn_x_4
        induction nn_x_4 with
        | zero => intro i_3 x_4 h1 h2; exact absurd h1 (by omega)
        | succ nn_x_4 ih_x_4 =>
          intro i_3 x_4 hn_x_4 hi_i_3 ex_x_4 H locs hP hD hS ls hl
          refine lv_iload_n hx hb dX8_ticks_22 rfl (lv_at hl 3 rfl) ?_
          refine lv_iload_n hx hb dX8_ticks_23 rfl (lv_at hl 2 rfl) ?_
          refine lv_icmp_ge (tgt := 38) hx hb dX8_ticks_24 (by decide) (fun c_5 => ?_) (fun c_5 => ?_)
          · skip
            have hq_x_4 : i_3 = n.toNatClampNeg := k_eq hB_x_4 c_5 hi_i_3 hN_x_4
            have ex_4 : x_4 = lp (bd_X8_ticks_22 G S F set) n.toNatClampNeg (P, N, n0, n1, n2) := by rw [ex_x_4, hfx_4, hq_x_4]
            refine lv_aload_n hx hb dX8_ticks_38 rfl (lv_at hl 0 rfl) ?_
            refine k_get hx hb hts hi8 hown hK hP 0 rfl rfl 2 (by decide) hf28 (.ref (r 2)) rfl dX8_ticks_39 ?_
            refine k_get hx hb hts hi2 hown hK hP 3 rfl rfl 2 (by decide) hf113 (.int ((x_4.1) 2)) rfl dX8_ticks_42 ?_
            have hsp : sp_X8_ticks G S F P N n0 n1 n2 set n = (((x_4.1) 2), (x_4.1), (x_4.2.1), (x_4.2.2.1), (x_4.2.2.2.1), (x_4.2.2.2.2)) := sq_X8_ticks_1 G S F P N n0 n1 n2 set n x_4 ex_4 c_1 c_2
            exact hret _ _ _ _ _ (by rw [hsp]) rfl (by rw [hsp]; exact hP) hS dX8_ticks_45
          · skip
            have hlt_i_3 : i_3 < n.toNatClampNeg := k_lt hB_x_4 c_5 hi_i_3 hN_x_4
            refine lv_aload_n hx hb dX8_ticks_27 rfl (lv_at hl 0 rfl) ?_
            refine lv_iload_n hx hb dX8_ticks_28 rfl (lv_at hl 1 rfl) ?_
            obtain ⟨P_6, eP_6⟩ : ∃ q : Nat → Int32, q = ((sp_X8_advanceNoted G S F (x_4.1) (x_4.2.1) (x_4.2.2.1) (x_4.2.2.2.1) (x_4.2.2.2.2) set).1) := ⟨_, rfl⟩
            obtain ⟨N_7, eN_7⟩ : ∃ q : Nat → Int32, q = ((sp_X8_advanceNoted G S F (x_4.1) (x_4.2.1) (x_4.2.2.1) (x_4.2.2.2.1) (x_4.2.2.2.2) set).2.1) := ⟨_, rfl⟩
            obtain ⟨n_8, en_8⟩ : ∃ q : Nat → Int32, q = ((sp_X8_advanceNoted G S F (x_4.1) (x_4.2.1) (x_4.2.2.1) (x_4.2.2.2.1) (x_4.2.2.2.2) set).2.2.1) := ⟨_, rfl⟩
            obtain ⟨n_9, en_9⟩ : ∃ q : Nat → Int32, q = ((sp_X8_advanceNoted G S F (x_4.1) (x_4.2.1) (x_4.2.2.1) (x_4.2.2.2.1) (x_4.2.2.2.2) set).2.2.2.1) := ⟨_, rfl⟩
            obtain ⟨n_10, en_10⟩ : ∃ q : Nat → Int32, q = ((sp_X8_advanceNoted G S F (x_4.1) (x_4.2.1) (x_4.2.2.1) (x_4.2.2.2.1) (x_4.2.2.2.2) set).2.2.2.2) := ⟨_, rfl⟩
            refine k_Vv ⟨hx, hb, hml, hown, hts⟩ (c_X8_advanceNoted l D cI cJ cO h r na nb nc G S F (x_4.1) (x_4.2.1) (x_4.2.2.1) (x_4.2.2.2.1) (x_4.2.2.2.2) set (by rw [ex_x_4, hfx_4]; exact hk c_1 c_2 _ hlt_i_3)) (ci := 8) (q0 := 0) rfl rfl (cwV 1 hts gX8_ticks_X8_advanceNoted rfl rfl rfl (by decide +kernel) ⟨Nat.le_of_ble_eq_true rfl, Nat.le_of_ble_eq_true rfl⟩) hK hN hP hD hS hA [0, 1, 2, 3, 4, 5, 6, 7] rfl rfl rfl (ws' := [(h, oX8 r G), ((r 0), oX5 S), ((r 1), oX0 F), ((r 2), oX2 (r 0) (r 1) P_6), ((r 4), oX1 na nb nc N_7), (na, .inl (cI, 90, .inl n_8)), (nb, .inl (cI, 5, .inl n_9)), (nc, .inl (cI, 5, .inl n_10))]) (by rw [eP_6, eN_7, en_8, en_9, en_10]; rfl) rfl hl.1 rfl (Nat.le_of_ble_eq_true rfl) dX8_ticks_29 ⟨Nat.le_refl _, Nat.le_refl _⟩ (fun H locs hP hD hS => ?_)
            refine lv_iinc (v := (nI (i_3 + 1))) (lv' := [(3, .int (nI (i_3 + 1))), (0, .ref h), (1, .int set), (2, .int n)]) hx hb dX8_ticks_32 hl (k := 3) rfl (nI_1 i_3) (by decide) rfl (fun ls hl => ?_)
            refine lv_goto (tgt := 22) hx hb dX8_ticks_35 (by decide) ?_
            exact ih_x_4 (i_3 + 1) (P_6, N_7, n_8, n_9, n_10) (by omega) (by omega) (by subst en_10; subst en_9; subst en_8; subst eN_7; subst eP_6; rw [show lp fx_4 (i_3 + 1) (P, N, n0, n1, n2) = fx_4 i_3 (lp fx_4 i_3 (P, N, n0, n1, n2)) from rfl, ← ex_x_4, hfx_4]; try (first | (rfl; done) | rfl)) _ _ hP hD hS _ (lv_sub hl [1, 2, 3, 0] rfl)
      exact Lx_4 (n.toNatClampNeg + 1) 0 (P, N, n0, n1, n2) (by omega) (Nat.zero_le _) rfl _ _ hP hD hS _ (lv_sub hl [1, 2, 3, 0] rfl)
    · skip
      refine lv_bipush (v := (-2)) hx hb dX8_ticks_17 (by decide +kernel) ?_
      have hsp : sp_X8_ticks G S F P N n0 n1 n2 set n = ((-2), P, N, n0, n1, n2) := by simp only [sp_X8_ticks, if_neg c_1, if_pos c_2]
      exact hret _ _ _ _ _ (by rw [hsp]) rfl (by rw [hsp]; exact hP) hS dX8_ticks_19
