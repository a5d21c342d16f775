theorem lq_prop {α β : Type} {f : Nat → α → α ⊕ β} {p : β → Prop} (h : ∀ i a b, f i a = .inr b → p b) : ∀ (n i : Nat) (a : α) (b : β), lq f n i a = .inr b → p b := by
  intro n
  induction n with
  | zero => intro i a b hb; cases hb
  | succ n ih =>
    intro i a b hb
    cases hf : f i a with
    | inl a' => rw [lq_inl hf] at hb; exact ih _ _ _ hb
    | inr b' =>
      rw [lq_inr hf] at hb
      cases hb
      exact h i a b hf
theorem lp_inv {α : Type} {f : Nat → α → α} {I : α → Prop} (h : ∀ i a, I a → I (f i a)) : ∀ (n : Nat) (a : α), I a → I (lp f n a) := by
  intro n
  induction n with
  | zero => intro a ha; exact ha
  | succ n ih => intro a ha; exact h n _ (ih a ha)
theorem addState_4 (Z : Nat → Int32) (t0 : Nat → Int64) (number : Int64) : (sp_X4_addState Z t0 number).1 4 = Z 4 := by
  simp only [sp_X4_addState]
  generalize hq : lq _ 2048 0 () = q
  cases q with
  | inl x => rfl
  | inr b =>
    rw [sE_inr]
    refine lq_prop (p := fun b : (Nat → Int32) × (Nat → Int64) => b.1 4 = Z 4) (fun i a b hb => ?_) _ _ _ _ hq
    simp only [bd_X4_addState_13] at hb
    split at hb
    · cases hb; rfl
    · split at hb
      · cases hb; rfl
      · cases hb
theorem meet_4 (Z : Nat → Int32) (t0 : Nat → Int64) (w0 : Nat → Int32) (P : Nat → Int32) (depth : Int32) : (sp_X4_meet Z t0 w0 P depth).1 4 = Z 4 := by
  simp only [sp_X4_meet]
  show upd (sp_X4_addState Z t0 (sp_X2_stateNumber P)).1 6 _ 4 = Z 4
  exact addState_4 Z t0 _
-- GOON

def sp_X4_goOn5 (Z : Nat → Int32) (t0 : Nat → Int64) (w0 : Nat → Int32) (c0 : Nat → Int32) (p5 : Nat → Int32) (S : Nat → Int32) (F : Nat → Int32) (n : Int32) : (Nat → Int32) × (Nat → Int64) × (Nat → Int32) :=
  let Z_1 : Nat → Int32 := ((sp_X4_meet Z t0 w0 p5 5).1)
  let t_2 : Nat → Int64 := ((sp_X4_meet Z t0 w0 p5 5).2.1)
  let w_3 : Nat → Int32 := ((sp_X4_meet Z t0 w0 p5 5).2.2)
  (if n ≤ 5 then
    (Z_1, t_2, w_3)
  else
    (Z_1, t_2, w_3))
set_option maxRecDepth 100000 in
theorem sq_X4_goOn5_1 (Z : Nat → Int32) (t0 : Nat → Int64) (w0 : Nat → Int32) (c0 : Nat → Int32) (p5 : Nat → Int32) (S : Nat → Int32) (F : Nat → Int32) (n : Int32) (Z_1 : Nat → Int32) (t_2 : Nat → Int64) (w_3 : Nat → Int32) (eZ_1 : Z_1 = ((sp_X4_meet Z t0 w0 p5 5).1)) (et_2 : t_2 = ((sp_X4_meet Z t0 w0 p5 5).2.1)) (ew_3 : w_3 = ((sp_X4_meet Z t0 w0 p5 5).2.2)) (c_4 : n ≤ 5) : sp_X4_goOn5 Z t0 w0 c0 p5 S F n = (Z_1, t_2, w_3) := by subst ew_3; subst et_2; subst eZ_1; simp only [sp_X4_goOn5, if_pos c_4]
set_option maxRecDepth 100000 in
theorem sq_X4_goOn5_2 (Z : Nat → Int32) (t0 : Nat → Int64) (w0 : Nat → Int32) (c0 : Nat → Int32) (p5 : Nat → Int32) (S : Nat → Int32) (F : Nat → Int32) (n : Int32) (Z_1 : Nat → Int32) (t_2 : Nat → Int64) (w_3 : Nat → Int32) (eZ_1 : Z_1 = ((sp_X4_meet Z t0 w0 p5 5).1)) (et_2 : t_2 = ((sp_X4_meet Z t0 w0 p5 5).2.1)) (ew_3 : w_3 = ((sp_X4_meet Z t0 w0 p5 5).2.2)) (c_4 : ¬ (n ≤ 5)) : sp_X4_goOn5 Z t0 w0 c0 p5 S F n = (Z_1, t_2, w_3) := by subst ew_3; subst et_2; subst eZ_1; simp only [sp_X4_goOn5, if_neg c_4]
set_option maxHeartbeats 4000000 in
set_option maxRecDepth 100000 in
theorem c_X4_goOn5 (l : Launch) (D : va_G) (cI cJ cO : ClassId) (g0 : Nat) (pa : Nat) (tb : Nat) (fw : Nat) (ch : Nat) (pr : Nat → Nat) (b0 : Nat) (b1 : Nat) (Z : Nat → Int32) (t0 : Nat → Int64) (w0 : Nat → Int32) (c0 : Nat → Int32) (p5 : Nat → Int32) (S : Nat → Int32) (F : Nat → Int32) (n : Int32)  : MV l D (TY cI cJ cO) yX4_goOn wsX4_goOn (RM 4) [.ref g0, .int 5, .int n] [(g0, oX4 pa tb fw ch Z), (pa, .inl (cO, 6, .inr (.inr (.inr (.inr (fun k => some (pr k))))))), (tb, .inl (cJ, 2048, .inr (.inl t0))), (fw, .inl (cI, 5, .inl w0)), (ch, .inl (cI, 4, .inl c0)), ((pr 5), oX2 b0 b1 p5), (b0, oX5 S), (b1, oX0 F)] [(g0, oX4 pa tb fw ch ((sp_X4_goOn5 Z t0 w0 c0 p5 S F n).1)), (pa, .inl (cO, 6, .inr (.inr (.inr (.inr (fun k => some (pr k))))))), (tb, .inl (cJ, 2048, .inr (.inl ((sp_X4_goOn5 Z t0 w0 c0 p5 S F n).2.1)))), (fw, .inl (cI, 5, .inl ((sp_X4_goOn5 Z t0 w0 c0 p5 S F n).2.2))), (ch, .inl (cI, 4, .inl c0)), ((pr 5), oX2 b0 b1 p5), (b0, oX5 S), (b1, oX0 F)] := by
  refine k_entV (cc := cX4_goOn) (maxL := 6) (lv := [(0, .ref g0), (1, .int 5), (2, .int n)]) (by decide +kernel) rfl (Nat.le_of_ble_eq_true rfl) rfl ?_
  intro p e s m below meth c A Q ls hx hb hml hts hown hA hS hP hD hK hN hl hret
  have hown : s.vm.findClass RX4 = some m.cls := hown
  have hi4 : ∀ w ∈ wsX40, w ∈ wsX4_goOn := fun w h => List.mem_cons_of_mem _ (List.mem_append_left _ (List.mem_append_left _ (List.mem_append_left _ (List.mem_append_right _ h))))
  have hf11 := hts (.fieldLink RX4 11 "PressGuard$Search" "path" "[LPressGuard$Press;") (by decide +kernel)
  refine lv_iload_n hx hb dX4_goOn_0 rfl (lv_at hl 1 rfl) ?_
  refine lv_iconst (v := 0) hx hb dX4_goOn_1 (by decide +kernel) ?_
  refine lv_iconst (v := 5) hx hb dX4_goOn_2 (by decide +kernel) ?_
  refine k_SNi ⟨hx, hb, hml, hown, hts⟩ (c_X8_within l D cI cJ cO 5 0 5) (va_cnB 3 hts gX4_goOn_X8_within_n65 rfl rfl rfl (hN.1 1 _ rfl) (hts (.initialized RX8) (by decide +kernel)) (by decide +kernel) ⟨Nat.le_of_ble_eq_true rfl, Nat.le_of_ble_eq_true rfl⟩) (hts (.static yX8_within) (by decide +kernel)) hK hN hP hD hS hA [] rfl rfl rfl (ws' := [(g0, oX4 pa tb fw ch Z), (pa, .inl (cO, 6, .inr (.inr (.inr (.inr (fun k => some (pr k))))))), (tb, .inl (cJ, 2048, .inr (.inl t0))), (fw, .inl (cI, 5, .inl w0)), (ch, .inl (cI, 4, .inl c0)), ((pr 5), oX2 b0 b1 p5), (b0, oX5 S), (b1, oX0 F)]) rfl rfl hl.1 rfl (Nat.le_of_ble_eq_true rfl) dX4_goOn_3 ⟨Nat.le_refl _, Nat.le_refl _⟩ (fun H locs hP hD hS => ?_)
  refine lv_if_ne (tgt := 10) hx hb dX4_goOn_6 (by decide) (fun _ => ?_) (fun q => absurd q (by decide +kernel))
  refine lv_aload_n hx hb dX4_goOn_10 rfl (lv_at hl 0 rfl) ?_
  refine k_get hx hb hts hi4 hown hK hP 0 rfl rfl 0 (by decide) hf11 (.ref pa) rfl dX4_goOn_11 ?_
  refine lv_iload_n hx hb dX4_goOn_14 rfl (lv_at hl 1 rfl) ?_
  refine k_aald hx hb hK hP 1 2 rfl rfl 5 (by decide +kernel) (vp_in_iff.mpr (by decide +kernel)) dX4_goOn_15 ?_
  refine lv_astore_n (lv' := [(3, .ref (pr 5)), (0, .ref g0), (1, .int 5), (2, .int n)]) hx hb dX4_goOn_16 rfl hl (by decide) rfl (fun ls hl => ?_)
  refine lv_aload_n hx hb dX4_goOn_17 rfl (lv_at hl 0 rfl) ?_
  refine lv_ifnonnull (tgt := 22) hx hb dX4_goOn_18 (by decide) ?_
  refine lv_aload_n hx hb dX4_goOn_22 rfl (lv_at hl 1 rfl) ?_
  refine lv_aload_n hx hb dX4_goOn_23 rfl (lv_at hl 0 rfl) ?_
  refine lv_iload_n hx hb dX4_goOn_24 rfl (lv_at hl 2 rfl) ?_
  obtain ⟨Z_1, eZ_1⟩ : ∃ q : Nat → Int32, q = ((sp_X4_meet Z t0 w0 p5 5).1) := ⟨_, rfl⟩
  obtain ⟨t_2, et_2⟩ : ∃ q : Nat → Int64, q = ((sp_X4_meet Z t0 w0 p5 5).2.1) := ⟨_, rfl⟩
  obtain ⟨w_3, ew_3⟩ : ∃ q : Nat → Int32, q = ((sp_X4_meet Z t0 w0 p5 5).2.2) := ⟨_, rfl⟩
  refine k_Vv ⟨hx, hb, hml, hown, hts⟩ (c_X4_meet l D cI cJ cO g0 (pr 5) pa tb fw ch b0 b1 Z t0 w0 p5 5) (ci := 4) (q0 := 0) rfl rfl (cwV 2 hts gX4_goOn_X4_meet rfl rfl rfl (by decide +kernel) ⟨Nat.le_of_ble_eq_true rfl, Nat.le_of_ble_eq_true rfl⟩) hK hN hP hD hS hA [0, 2, 3, 5] rfl rfl rfl (ws' := [(g0, oX4 pa tb fw ch Z_1), (pa, .inl (cO, 6, .inr (.inr (.inr (.inr (fun k => some (pr k))))))), (tb, .inl (cJ, 2048, .inr (.inl t_2))), (fw, .inl (cI, 5, .inl w_3)), (ch, .inl (cI, 4, .inl c0)), ((pr 5), oX2 b0 b1 p5), (b0, oX5 S), (b1, oX0 F)]) (by rw [eZ_1, et_2, ew_3]; rfl) rfl hl.1 rfl (Nat.le_of_ble_eq_true rfl) dX4_goOn_25 ⟨Nat.le_refl _, Nat.le_refl _⟩ (fun H locs hP hD hS => ?_)
  refine lv_iload_n hx hb dX4_goOn_28 rfl (lv_at hl 2 rfl) ?_
  refine lv_iload_n hx hb dX4_goOn_29 rfl (lv_at hl 3 rfl) ?_
  refine lv_icmp_ge (tgt := 38) hx hb dX4_goOn_30 (by decide) (fun c_4 => ?_) (fun c_4 => ?_)
  · skip
    have hsp : sp_X4_goOn5 Z t0 w0 c0 p5 S F n = (Z_1, t_2, w_3) := sq_X4_goOn5_1 Z t0 w0 c0 p5 S F n Z_1 t_2 w_3 eZ_1 et_2 ew_3 c_4
    exact hret _ _ _ _ (by rw [hsp]; exact hP) hS dX4_goOn_38
  · skip
    refine lv_iload_n hx hb dX4_goOn_33 rfl (lv_at hl 2 rfl) ?_
    refine lv_iconst (v := 5) hx hb dX4_goOn_34 (by decide +kernel) ?_
    refine lv_icmp_lt (tgt := 39) hx hb dX4_goOn_35 (by decide) (fun q => absurd q (by decide +kernel)) (fun _ => ?_)
    have hsp : sp_X4_goOn5 Z t0 w0 c0 p5 S F n = (Z_1, t_2, w_3) := sq_X4_goOn5_2 Z t0 w0 c0 p5 S F n Z_1 t_2 w_3 eZ_1 et_2 ew_3 c_4
    exact hret _ _ _ _ (by rw [hsp]; exact hP) hS dX4_goOn_38

theorem goOn5_4 (Z : Nat → Int32) (t0 : Nat → Int64) (w0 : Nat → Int32) (c0 : Nat → Int32) (p5 : Nat → Int32) (S : Nat → Int32) (F : Nat → Int32) (n : Int32) : (sp_X4_goOn5 Z t0 w0 c0 p5 S F n).1 4 = Z 4 := by
  simp only [sp_X4_goOn5]
  (repeat' split) <;> exact meet_4 Z t0 w0 p5 5

def bd_X4_goOn4_58 (c0 : Nat → Int32) (p4 : Nat → Int32) (S : Nat → Int32) (F : Nat → Int32) (n : Int32) (i_6 : Nat) (x_7 : (Nat → Int32) × (Nat → Int64) × (Nat → Int32) × (Nat → Int32)) : (Nat → Int32) × (Nat → Int64) × (Nat → Int32) × (Nat → Int32) :=
  (let P_8 : Nat → Int32 := (sp_X2_copyFrom (x_7.2.2.2) p4); (let P_9 : Nat → Int32 := (sp_X2_advance P_8 S F (c0 i_6)); (let Z_11 : Nat → Int32 := ((sp_X4_goOn5 (x_7.1) (x_7.2.1) (x_7.2.2.1) c0 P_9 S F n).1); (let t_12 : Nat → Int64 := ((sp_X4_goOn5 (x_7.1) (x_7.2.1) (x_7.2.2.1) c0 P_9 S F n).2.1); (let w_13 : Nat → Int32 := ((sp_X4_goOn5 (x_7.1) (x_7.2.1) (x_7.2.2.1) c0 P_9 S F n).2.2); (Z_11, t_12, w_13, P_9))))))
def sp_X4_goOn4 (Z : Nat → Int32) (t0 : Nat → Int64) (w0 : Nat → Int32) (c0 : Nat → Int32) (p4 : Nat → Int32) (p5 : Nat → Int32) (S : Nat → Int32) (F : Nat → Int32) (n : Int32) : (Nat → Int32) × (Nat → Int64) × (Nat → Int32) × (Nat → Int32) :=
  let Z_1 : Nat → Int32 := ((sp_X4_meet Z t0 w0 p4 4).1)
  let t_2 : Nat → Int64 := ((sp_X4_meet Z t0 w0 p4 4).2.1)
  let w_3 : Nat → Int32 := ((sp_X4_meet Z t0 w0 p4 4).2.2)
  (if n ≤ 4 then
    (Z_1, t_2, w_3, p5)
  else
    let x_7 : (Nat → Int32) × (Nat → Int64) × (Nat → Int32) × (Nat → Int32) := lp (bd_X4_goOn4_58 c0 p4 S F n) ((Z 4).toNatClampNeg) (Z_1, t_2, w_3, p5)
    ((x_7.1), (x_7.2.1), (x_7.2.2.1), (x_7.2.2.2)))
set_option maxRecDepth 100000 in
theorem sq_X4_goOn4_1 (Z : Nat → Int32) (t0 : Nat → Int64) (w0 : Nat → Int32) (c0 : Nat → Int32) (p4 : Nat → Int32) (p5 : Nat → Int32) (S : Nat → Int32) (F : Nat → Int32) (n : Int32) (Z_1 : Nat → Int32) (t_2 : Nat → Int64) (w_3 : Nat → Int32) (eZ_1 : Z_1 = ((sp_X4_meet Z t0 w0 p4 4).1)) (et_2 : t_2 = ((sp_X4_meet Z t0 w0 p4 4).2.1)) (ew_3 : w_3 = ((sp_X4_meet Z t0 w0 p4 4).2.2)) (c_4 : n ≤ 4) : sp_X4_goOn4 Z t0 w0 c0 p4 p5 S F n = (Z_1, t_2, w_3, p5) := by subst ew_3; subst et_2; subst eZ_1; simp only [sp_X4_goOn4, if_pos c_4]
set_option maxRecDepth 100000 in
theorem sq_X4_goOn4_2 (Z : Nat → Int32) (t0 : Nat → Int64) (w0 : Nat → Int32) (c0 : Nat → Int32) (p4 : Nat → Int32) (p5 : Nat → Int32) (S : Nat → Int32) (F : Nat → Int32) (n : Int32) (Z_1 : Nat → Int32) (t_2 : Nat → Int64) (w_3 : Nat → Int32) (x_7 : (Nat → Int32) × (Nat → Int64) × (Nat → Int32) × (Nat → Int32)) (eZ_1 : Z_1 = ((sp_X4_meet Z t0 w0 p4 4).1)) (et_2 : t_2 = ((sp_X4_meet Z t0 w0 p4 4).2.1)) (ew_3 : w_3 = ((sp_X4_meet Z t0 w0 p4 4).2.2)) (ex_7 : x_7 = lp (bd_X4_goOn4_58 c0 p4 S F n) ((Z 4).toNatClampNeg) (Z_1, t_2, w_3, p5)) (c_4 : ¬ (n ≤ 4)) : sp_X4_goOn4 Z t0 w0 c0 p4 p5 S F n = ((x_7.1), (x_7.2.1), (x_7.2.2.1), (x_7.2.2.2)) := by subst ex_7; subst ew_3; subst et_2; subst eZ_1; simp only [sp_X4_goOn4, if_neg c_4]
set_option maxHeartbeats 4000000 in
set_option maxRecDepth 100000 in
theorem c_X4_goOn4 (l : Launch) (D : va_G) (cI cJ cO : ClassId) (g0 : Nat) (pa : Nat) (tb : Nat) (fw : Nat) (ch : Nat) (pr : Nat → Nat) (b0 : Nat) (b1 : Nat) (Z : Nat → Int32) (t0 : Nat → Int64) (w0 : Nat → Int32) (c0 : Nat → Int32) (p4 : Nat → Int32) (p5 : Nat → Int32) (S : Nat → Int32) (F : Nat → Int32) (n : Int32) (hc0 : ¬ Z 4 < 0) (hc4 : (Z 4).toNatClampNeg ≤ 4) : MV l D (TY cI cJ cO) yX4_goOn wsX4_goOn (RM 5) [.ref g0, .int 4, .int n] [(g0, oX4 pa tb fw ch Z), (pa, .inl (cO, 6, .inr (.inr (.inr (.inr (fun k => some (pr k))))))), (tb, .inl (cJ, 2048, .inr (.inl t0))), (fw, .inl (cI, 5, .inl w0)), (ch, .inl (cI, 4, .inl c0)), ((pr 4), oX2 b0 b1 p4), ((pr 5), oX2 b0 b1 p5), (b0, oX5 S), (b1, oX0 F)] [(g0, oX4 pa tb fw ch ((sp_X4_goOn4 Z t0 w0 c0 p4 p5 S F n).1)), (pa, .inl (cO, 6, .inr (.inr (.inr (.inr (fun k => some (pr k))))))), (tb, .inl (cJ, 2048, .inr (.inl ((sp_X4_goOn4 Z t0 w0 c0 p4 p5 S F n).2.1)))), (fw, .inl (cI, 5, .inl ((sp_X4_goOn4 Z t0 w0 c0 p4 p5 S F n).2.2.1))), (ch, .inl (cI, 4, .inl c0)), ((pr 4), oX2 b0 b1 p4), ((pr 5), oX2 b0 b1 ((sp_X4_goOn4 Z t0 w0 c0 p4 p5 S F n).2.2.2)), (b0, oX5 S), (b1, oX0 F)] := by
  refine k_entV (cc := cX4_goOn) (maxL := 6) (lv := [(0, .ref g0), (1, .int 4), (2, .int n)]) (by decide +kernel) rfl (Nat.le_of_ble_eq_true rfl) rfl ?_
  intro p e s m below meth c A Q ls hx hb hml hts hown hA hS hP hD hK hN hl hret
  have hown : s.vm.findClass RX4 = some m.cls := hown
  have hi4 : ∀ w ∈ wsX40, w ∈ wsX4_goOn := fun w h => List.mem_cons_of_mem _ (List.mem_append_left _ (List.mem_append_left _ (List.mem_append_left _ (List.mem_append_right _ h))))
  have hf11 := hts (.fieldLink RX4 11 "PressGuard$Search" "path" "[LPressGuard$Press;") (by decide +kernel)
  have hf25 := hts (.fieldLink RX4 25 "PressGuard$Search" "choices" "[I") (by decide +kernel)
  have hf28 := hts (.fieldLink RX4 28 "PressGuard$Search" "choiceCount" "I") (by decide +kernel)
  refine lv_iload_n hx hb dX4_goOn_0 rfl (lv_at hl 1 rfl) ?_
  refine lv_iconst (v := 0) hx hb dX4_goOn_1 (by decide +kernel) ?_
  refine lv_iconst (v := 5) hx hb dX4_goOn_2 (by decide +kernel) ?_
  refine k_SNi ⟨hx, hb, hml, hown, hts⟩ (c_X8_within l D cI cJ cO 4 0 5) (va_cnB 3 hts gX4_goOn_X8_within_n65 rfl rfl rfl (hN.1 1 _ rfl) (hts (.initialized RX8) (by decide +kernel)) (by decide +kernel) ⟨Nat.le_of_ble_eq_true rfl, Nat.le_of_ble_eq_true rfl⟩) (hts (.static yX8_within) (by decide +kernel)) hK hN hP hD hS hA [] rfl rfl rfl (ws' := [(g0, oX4 pa tb fw ch Z), (pa, .inl (cO, 6, .inr (.inr (.inr (.inr (fun k => some (pr k))))))), (tb, .inl (cJ, 2048, .inr (.inl t0))), (fw, .inl (cI, 5, .inl w0)), (ch, .inl (cI, 4, .inl c0)), ((pr 4), oX2 b0 b1 p4), ((pr 5), oX2 b0 b1 p5), (b0, oX5 S), (b1, oX0 F)]) rfl rfl hl.1 rfl (Nat.le_of_ble_eq_true rfl) dX4_goOn_3 ⟨Nat.le_refl _, Nat.le_refl _⟩ (fun H locs hP hD hS => ?_)
  refine lv_if_ne (tgt := 10) hx hb dX4_goOn_6 (by decide) (fun _ => ?_) (fun q => absurd q (by decide +kernel))
  refine lv_aload_n hx hb dX4_goOn_10 rfl (lv_at hl 0 rfl) ?_
  refine k_get hx hb hts hi4 hown hK hP 0 rfl rfl 0 (by decide) hf11 (.ref pa) rfl dX4_goOn_11 ?_
  refine lv_iload_n hx hb dX4_goOn_14 rfl (lv_at hl 1 rfl) ?_
  refine k_aald hx hb hK hP 1 2 rfl rfl 4 (by decide +kernel) (vp_in_iff.mpr (by decide +kernel)) dX4_goOn_15 ?_
  refine lv_astore_n (lv' := [(3, .ref (pr 4)), (0, .ref g0), (1, .int 4), (2, .int n)]) hx hb dX4_goOn_16 rfl hl (by decide) rfl (fun ls hl => ?_)
  refine lv_aload_n hx hb dX4_goOn_17 rfl (lv_at hl 0 rfl) ?_
  refine lv_ifnonnull (tgt := 22) hx hb dX4_goOn_18 (by decide) ?_
  refine lv_aload_n hx hb dX4_goOn_22 rfl (lv_at hl 1 rfl) ?_
  refine lv_aload_n hx hb dX4_goOn_23 rfl (lv_at hl 0 rfl) ?_
  refine lv_iload_n hx hb dX4_goOn_24 rfl (lv_at hl 2 rfl) ?_
  obtain ⟨Z_1, eZ_1⟩ : ∃ q : Nat → Int32, q = ((sp_X4_meet Z t0 w0 p4 4).1) := ⟨_, rfl⟩
  obtain ⟨t_2, et_2⟩ : ∃ q : Nat → Int64, q = ((sp_X4_meet Z t0 w0 p4 4).2.1) := ⟨_, rfl⟩
  obtain ⟨w_3, ew_3⟩ : ∃ q : Nat → Int32, q = ((sp_X4_meet Z t0 w0 p4 4).2.2) := ⟨_, rfl⟩
  refine k_Vv ⟨hx, hb, hml, hown, hts⟩ (c_X4_meet l D cI cJ cO g0 (pr 4) pa tb fw ch b0 b1 Z t0 w0 p4 4) (ci := 4) (q0 := 0) rfl rfl (cwV 2 hts gX4_goOn_X4_meet rfl rfl rfl (by decide +kernel) ⟨Nat.le_of_ble_eq_true rfl, Nat.le_of_ble_eq_true rfl⟩) hK hN hP hD hS hA [0, 2, 3, 5] rfl rfl rfl (ws' := [(g0, oX4 pa tb fw ch Z_1), (pa, .inl (cO, 6, .inr (.inr (.inr (.inr (fun k => some (pr k))))))), (tb, .inl (cJ, 2048, .inr (.inl t_2))), (fw, .inl (cI, 5, .inl w_3)), (ch, .inl (cI, 4, .inl c0)), ((pr 4), oX2 b0 b1 p4), ((pr 5), oX2 b0 b1 p5), (b0, oX5 S), (b1, oX0 F)]) (by rw [eZ_1, et_2, ew_3]; rfl) rfl hl.1 rfl (Nat.le_of_ble_eq_true rfl) dX4_goOn_25 ⟨Nat.le_refl _, Nat.le_refl _⟩ (fun H locs hP hD hS => ?_)
  refine lv_iload_n hx hb dX4_goOn_28 rfl (lv_at hl 2 rfl) ?_
  refine lv_iload_n hx hb dX4_goOn_29 rfl (lv_at hl 3 rfl) ?_
  refine lv_icmp_ge (tgt := 38) hx hb dX4_goOn_30 (by decide) (fun c_4 => ?_) (fun c_4 => ?_)
  · skip
    have hsp : sp_X4_goOn4 Z t0 w0 c0 p4 p5 S F n = (Z_1, t_2, w_3, p5) := sq_X4_goOn4_1 Z t0 w0 c0 p4 p5 S F n Z_1 t_2 w_3 eZ_1 et_2 ew_3 c_4
    exact hret _ _ _ _ (by rw [hsp]; exact hP) hS dX4_goOn_38
  · skip
    refine lv_iload_n hx hb dX4_goOn_33 rfl (lv_at hl 2 rfl) ?_
    refine lv_iconst (v := 5) hx hb dX4_goOn_34 (by decide +kernel) ?_
    refine lv_icmp_lt (tgt := 39) hx hb dX4_goOn_35 (by decide) (fun _ => ?_) (fun q => absurd q (by decide +kernel))
    refine lv_aload_n hx hb dX4_goOn_39 rfl (lv_at hl 1 rfl) ?_
    refine k_get hx hb hts hi4 hown hK hP 0 rfl rfl 0 (by decide) hf11 (.ref pa) rfl dX4_goOn_40 ?_
    refine lv_iload_n hx hb dX4_goOn_43 rfl (lv_at hl 2 rfl) ?_
    refine lv_iconst (v := 1) hx hb dX4_goOn_44 (by decide +kernel) ?_
    refine lv_iadd hx hb dX4_goOn_45 ?_
    refine lv_topi (fun z_5 ez_5 => ?_)
    obtain rfl : z_5 = 5 := ez_5.trans (by decide +kernel)
    refine k_aald hx hb hK hP 1 2 rfl rfl 5 (by decide +kernel) (vp_in_iff.mpr (by decide +kernel)) dX4_goOn_46 ?_
    refine lv_astore (lv' := [(4, .ref (pr 5)), (3, .ref (pr 4)), (0, .ref g0), (1, .int 4), (2, .int n)]) hx hb dX4_goOn_47 hl (by decide) rfl (fun ls hl => ?_)
    refine lv_aload hx hb dX4_goOn_49 (lv_at hl 0 rfl) ?_
    refine lv_ifnonnull (tgt := 55) hx hb dX4_goOn_51 (by decide) ?_
    refine lv_iconst (v := 0) hx hb dX4_goOn_55 (by decide +kernel) ?_
    refine lv_istore (lv' := [(5, .int 0), (4, .ref (pr 5)), (3, .ref (pr 4)), (0, .ref g0), (1, .int 4), (2, .int n)]) hx hb dX4_goOn_56 hl (by decide) rfl (fun ls hl => ?_)
    obtain ⟨fx_7, hfx_7⟩ : ∃ f : Nat → (Nat → Int32) × (Nat → Int64) × (Nat → Int32) × (Nat → Int32) → (Nat → Int32) × (Nat → Int64) × (Nat → Int32) × (Nat → Int32), f = (bd_X4_goOn4_58 c0 p4 S F n) := ⟨_, rfl⟩
    have hN_x_7 : (Z 4).toNatClampNeg < 2 ^ 31 := clamp_lt _
    have Lx_7 : ∀ (nn i_6 : Nat) (x_7 : (Nat → Int32) × (Nat → Int64) × (Nat → Int32) × (Nat → Int32)), (Z 4).toNatClampNeg + 1 ≤ i_6 + nn → i_6 ≤ (Z 4).toNatClampNeg → x_7 = lp fx_7 i_6 (Z_1, t_2, w_3, p5) → (x_7.1) 4 = Z 4 → ∀ (H : Heap) (locs : List Loc), va_P D vwCl [(g0, oX4 pa tb fw ch (x_7.1)), (pa, .inl (cO, 6, .inr (.inr (.inr (.inr (fun k => some (pr k))))))), (tb, .inl (cJ, 2048, .inr (.inl (x_7.2.1)))), (fw, .inl (cI, 5, .inl (x_7.2.2.1))), (ch, .inl (cI, 4, .inl c0)), ((pr 4), oX2 b0 b1 p4), ((pr 5), oX2 b0 b1 (x_7.2.2.2)), (b0, oX5 S), (b1, oX0 F)] H → va_D A [(g0, oX4 pa tb fw ch (x_7.1)), (pa, .inl (cO, 6, .inr (.inr (.inr (.inr (fun k => some (pr k))))))), (tb, .inl (cJ, 2048, .inr (.inl (x_7.2.1)))), (fw, .inl (cI, 5, .inl (x_7.2.2.1))), (ch, .inl (cI, 4, .inl c0)), ((pr 4), oX2 b0 b1 p4), ((pr 5), oX2 b0 b1 (x_7.2.2.2)), (b0, oX5 S), (b1, oX0 F)] → va_S A s.heap H locs → ∀ ls : Array Slot, lv_has ls 6 [(0, .ref g0), (1, .int 4), (2, .int n), (3, .ref (pr 4)), (4, .ref (pr 5)), (5, .int (nI i_6))] → W p l e (RM 5) s m ([.ref g0, .int 4, .int n] : List Value).toArray below meth c H locs 0 0 Q (F0 m 58 ls []) := by
      intro nn_x_7
      induction nn_x_7 with
      | zero => intro i_6 x_7 h1 h2; exact absurd h1 (by omega)
      | succ nn_x_7 ih_x_7 =>
        intro i_6 x_7 hn_x_7 hi_i_6 ex_x_7 hv_x_7 H locs hP hD hS ls hl
        have hB_x_7 : (((x_7.1) 4) : Int32) = nI ((Z 4).toNatClampNeg) := hv_x_7.trans (nI_self hc0)
        refine lv_iload hx hb dX4_goOn_58 (lv_at hl 5 rfl) ?_
        refine lv_aload_n hx hb dX4_goOn_60 rfl (lv_at hl 0 rfl) ?_
        refine k_get hx hb hts hi4 hown hK hP 0 rfl rfl 4 (by decide) hf28 (.int ((x_7.1) 4)) rfl dX4_goOn_61 ?_
        refine lv_icmp_ge (tgt := 109) hx hb dX4_goOn_64 (by decide) (fun c_8 => ?_) (fun c_8 => ?_)
        · skip
          have hq_x_7 : i_6 = (Z 4).toNatClampNeg := k_eq hB_x_7 c_8 hi_i_6 hN_x_7
          have ex_7 : x_7 = lp (bd_X4_goOn4_58 c0 p4 S F n) ((Z 4).toNatClampNeg) (Z_1, t_2, w_3, p5) := by rw [ex_x_7, hfx_7, hq_x_7]
          have hsp : sp_X4_goOn4 Z t0 w0 c0 p4 p5 S F n = ((x_7.1), (x_7.2.1), (x_7.2.2.1), (x_7.2.2.2)) := sq_X4_goOn4_2 Z t0 w0 c0 p4 p5 S F n Z_1 t_2 w_3 x_7 eZ_1 et_2 ew_3 ex_7 c_4
          exact hret _ _ _ _ (by rw [hsp]; exact hP) hS dX4_goOn_109
        · skip
          have hlt_i_6 : i_6 < (Z 4).toNatClampNeg := k_lt hB_x_7 c_8 hi_i_6 hN_x_7
          refine lv_iload hx hb dX4_goOn_67 (lv_at hl 5 rfl) ?_
          refine lv_aload_n hx hb dX4_goOn_69 rfl (lv_at hl 0 rfl) ?_
          refine k_get hx hb hts hi4 hown hK hP 0 rfl rfl 3 (by decide) hf25 (.ref ch) rfl dX4_goOn_70 ?_
          refine va_alen hx hb hK hP 4 0 rfl rfl (v := 4) (show Int32.ofNat 4 = 4 by decide +kernel) dX4_goOn_73 ?_
          refine lv_icmp_ge (tgt := 109) hx hb dX4_goOn_74 (by decide) (fun q => absurd q (show ¬ (nI 4 ≤ (nI i_6)) from nI_ge (by omega) (by decide))) (fun _ => ?_)
          refine lv_aload hx hb dX4_goOn_77 (lv_at hl 4 rfl) ?_
          refine lv_aload_n hx hb dX4_goOn_79 rfl (lv_at hl 3 rfl) ?_
          obtain ⟨P_9, eP_9⟩ : ∃ q : Nat → Int32, q = (sp_X2_copyFrom (x_7.2.2.2) p4) := ⟨_, rfl⟩
          refine k_Vv ⟨hx, hb, hml, hown, hts⟩ (c_X2_copyFrom l D cI cJ cO (pr 5) (pr 4) b0 b1 (x_7.2.2.2) p4) (ci := 2) (q0 := 6) rfl rfl (cwV 1 hts gX4_goOn_X2_copyFrom rfl rfl rfl (by decide +kernel) ⟨Nat.le_of_ble_eq_true rfl, Nat.le_of_ble_eq_true rfl⟩) hK hN hP hD hS hA [6, 5] rfl rfl rfl (ws' := [(g0, oX4 pa tb fw ch (x_7.1)), (pa, .inl (cO, 6, .inr (.inr (.inr (.inr (fun k => some (pr k))))))), (tb, .inl (cJ, 2048, .inr (.inl (x_7.2.1)))), (fw, .inl (cI, 5, .inl (x_7.2.2.1))), (ch, .inl (cI, 4, .inl c0)), ((pr 4), oX2 b0 b1 p4), ((pr 5), oX2 b0 b1 P_9), (b0, oX5 S), (b1, oX0 F)]) (by rw [eP_9]; rfl) rfl hl.1 rfl (Nat.le_of_ble_eq_true rfl) dX4_goOn_80 ⟨Nat.le_refl _, Nat.le_refl _⟩ (fun H locs hP hD hS => ?_)
          refine lv_aload hx hb dX4_goOn_83 (lv_at hl 4 rfl) ?_
          refine lv_aload_n hx hb dX4_goOn_85 rfl (lv_at hl 0 rfl) ?_
          refine k_get hx hb hts hi4 hown hK hP 0 rfl rfl 3 (by decide) hf25 (.ref ch) rfl dX4_goOn_86 ?_
          refine lv_iload hx hb dX4_goOn_89 (lv_at hl 5 rfl) ?_
          refine k_iald hx hb hK hP 4 0 rfl rfl i_6 (nI_clamp (by omega)) (vp_in_nI (by omega) (by omega)) dX4_goOn_91 ?_
          obtain ⟨P_10, eP_10⟩ : ∃ q : Nat → Int32, q = (sp_X2_advance P_9 S F (c0 i_6)) := ⟨_, rfl⟩
          refine k_Vv ⟨hx, hb, hml, hown, hts⟩ (c_X2_advance l D cI cJ cO (pr 5) b0 b1 P_9 S F (c0 i_6)) (ci := 2) (q0 := 6) rfl rfl (cwV 1 hts gX4_goOn_X2_advance rfl rfl rfl (by decide +kernel) ⟨Nat.le_of_ble_eq_true rfl, Nat.le_of_ble_eq_true rfl⟩) hK hN hP hD hS hA [6, 7, 8] rfl rfl rfl (ws' := [(g0, oX4 pa tb fw ch (x_7.1)), (pa, .inl (cO, 6, .inr (.inr (.inr (.inr (fun k => some (pr k))))))), (tb, .inl (cJ, 2048, .inr (.inl (x_7.2.1)))), (fw, .inl (cI, 5, .inl (x_7.2.2.1))), (ch, .inl (cI, 4, .inl c0)), ((pr 4), oX2 b0 b1 p4), ((pr 5), oX2 b0 b1 P_10), (b0, oX5 S), (b1, oX0 F)]) (by rw [eP_10]; rfl) rfl hl.1 rfl (Nat.le_of_ble_eq_true rfl) dX4_goOn_92 ⟨Nat.le_refl _, Nat.le_refl _⟩ (fun H locs hP hD hS => ?_)
          refine lv_aload_n hx hb dX4_goOn_95 rfl (lv_at hl 0 rfl) ?_
          refine lv_iload_n hx hb dX4_goOn_96 rfl (lv_at hl 1 rfl) ?_
          refine lv_iconst (v := 1) hx hb dX4_goOn_97 (by decide +kernel) ?_
          refine lv_iadd hx hb dX4_goOn_98 ?_
          refine lv_topi (fun z_11 ez_11 => ?_)
          obtain rfl : z_11 = 5 := ez_11.trans (by decide +kernel)
          refine lv_iload_n hx hb dX4_goOn_99 rfl (lv_at hl 2 rfl) ?_
          obtain ⟨Z_12, eZ_12⟩ : ∃ q : Nat → Int32, q = ((sp_X4_goOn5 (x_7.1) (x_7.2.1) (x_7.2.2.1) c0 P_10 S F n).1) := ⟨_, rfl⟩
          obtain ⟨t_13, et_13⟩ : ∃ q : Nat → Int64, q = ((sp_X4_goOn5 (x_7.1) (x_7.2.1) (x_7.2.2.1) c0 P_10 S F n).2.1) := ⟨_, rfl⟩
          obtain ⟨w_14, ew_14⟩ : ∃ q : Nat → Int32, q = ((sp_X4_goOn5 (x_7.1) (x_7.2.1) (x_7.2.2.1) c0 P_10 S F n).2.2) := ⟨_, rfl⟩
          refine k_Sv ⟨hx, hb, hml, hown, hts⟩ (c_X4_goOn5 l D cI cJ cO g0 pa tb fw ch pr b0 b1 (x_7.1) (x_7.2.1) (x_7.2.2.1) c0 P_10 S F n) (va_cwS 3 hts gX4_goOn_X4_goOn rfl rfl rfl (by decide +kernel) ⟨Nat.le_of_ble_eq_true rfl, Nat.le_of_ble_eq_true rfl⟩) hK hN hP hD hS hA [0, 1, 2, 3, 4, 6, 7, 8] rfl rfl rfl (ws' := [(g0, oX4 pa tb fw ch Z_12), (pa, .inl (cO, 6, .inr (.inr (.inr (.inr (fun k => some (pr k))))))), (tb, .inl (cJ, 2048, .inr (.inl t_13))), (fw, .inl (cI, 5, .inl w_14)), (ch, .inl (cI, 4, .inl c0)), ((pr 4), oX2 b0 b1 p4), ((pr 5), oX2 b0 b1 P_10), (b0, oX5 S), (b1, oX0 F)]) (by rw [eZ_12, et_13, ew_14]; rfl) rfl hl.1 rfl (Nat.le_of_ble_eq_true rfl) dX4_goOn_100 ⟨Nat.le_refl _, Nat.le_refl _⟩ (fun H locs hP hD hS => ?_)
          refine lv_iinc (v := (nI (i_6 + 1))) (lv' := [(5, .int (nI (i_6 + 1))), (0, .ref g0), (1, .int 4), (2, .int n), (3, .ref (pr 4)), (4, .ref (pr 5))]) hx hb dX4_goOn_103 hl (k := 5) rfl (nI_1 i_6) (by decide) rfl (fun ls hl => ?_)
          refine lv_goto (tgt := 58) hx hb dX4_goOn_106 (by decide) ?_
          exact ih_x_7 (i_6 + 1) (Z_12, t_13, w_14, P_10) (by omega) (by omega) (by subst ew_14; subst et_13; subst eZ_12; subst eP_10; subst eP_9; rw [show lp fx_7 (i_6 + 1) (Z_1, t_2, w_3, p5) = fx_7 i_6 (lp fx_7 i_6 (Z_1, t_2, w_3, p5)) from rfl, ← ex_x_7, hfx_7]; try (first | (rfl; done) | rfl)) (by (try simp only [ew_14, et_13, eZ_12, eP_10, eP_9, ew_3, et_2, eZ_1, meet_4, goOn5_4, upd]); first | done | rfl | exact hv_x_7 | (simp only [hv_x_7])) _ _ hP hD hS _ (lv_sub hl [1, 2, 3, 4, 5, 0] rfl)
    exact Lx_7 ((Z 4).toNatClampNeg + 1) 0 (Z_1, t_2, w_3, p5) (by omega) (Nat.zero_le _) rfl (by (try simp only [ew_3, et_2, eZ_1, meet_4, goOn5_4, upd]); first | done | rfl) _ _ hP hD hS _ (lv_sub hl [3, 4, 5, 2, 1, 0] rfl)

theorem goOn4_4 (Z : Nat → Int32) (t0 : Nat → Int64) (w0 : Nat → Int32) (c0 : Nat → Int32) (p4 : Nat → Int32) (p5 : Nat → Int32) (S : Nat → Int32) (F : Nat → Int32) (n : Int32) : (sp_X4_goOn4 Z t0 w0 c0 p4 p5 S F n).1 4 = Z 4 := by
  simp only [sp_X4_goOn4]
  split
  · exact meet_4 Z t0 w0 p4 4
  · refine lp_inv (I := fun x : (Nat → Int32) × (Nat → Int64) × (Nat → Int32) × (Nat → Int32) => x.1 4 = Z 4) (fun i x hx => ?_) _ _ (meet_4 Z t0 w0 p4 4)
    simp only [bd_X4_goOn4_58]
    exact (goOn5_4 _ _ _ _ _ _ _ _).trans hx

def bd_X4_goOn3_58 (c0 : Nat → Int32) (p3 : Nat → Int32) (S : Nat → Int32) (F : Nat → Int32) (n : Int32) (i_6 : Nat) (x_7 : (Nat → Int32) × (Nat → Int64) × (Nat → Int32) × (Nat → Int32) × (Nat → Int32)) : (Nat → Int32) × (Nat → Int64) × (Nat → Int32) × (Nat → Int32) × (Nat → Int32) :=
  (let P_8 : Nat → Int32 := (sp_X2_copyFrom (x_7.2.2.2.1) p3); (let P_9 : Nat → Int32 := (sp_X2_advance P_8 S F (c0 i_6)); (let Z_11 : Nat → Int32 := ((sp_X4_goOn4 (x_7.1) (x_7.2.1) (x_7.2.2.1) c0 P_9 (x_7.2.2.2.2) S F n).1); (let t_12 : Nat → Int64 := ((sp_X4_goOn4 (x_7.1) (x_7.2.1) (x_7.2.2.1) c0 P_9 (x_7.2.2.2.2) S F n).2.1); (let w_13 : Nat → Int32 := ((sp_X4_goOn4 (x_7.1) (x_7.2.1) (x_7.2.2.1) c0 P_9 (x_7.2.2.2.2) S F n).2.2.1); (let p_14 : Nat → Int32 := ((sp_X4_goOn4 (x_7.1) (x_7.2.1) (x_7.2.2.1) c0 P_9 (x_7.2.2.2.2) S F n).2.2.2); (Z_11, t_12, w_13, P_9, p_14)))))))
def sp_X4_goOn3 (Z : Nat → Int32) (t0 : Nat → Int64) (w0 : Nat → Int32) (c0 : Nat → Int32) (p3 : Nat → Int32) (p4 : Nat → Int32) (p5 : Nat → Int32) (S : Nat → Int32) (F : Nat → Int32) (n : Int32) : (Nat → Int32) × (Nat → Int64) × (Nat → Int32) × (Nat → Int32) × (Nat → Int32) :=
  let Z_1 : Nat → Int32 := ((sp_X4_meet Z t0 w0 p3 3).1)
  let t_2 : Nat → Int64 := ((sp_X4_meet Z t0 w0 p3 3).2.1)
  let w_3 : Nat → Int32 := ((sp_X4_meet Z t0 w0 p3 3).2.2)
  (if n ≤ 3 then
    (Z_1, t_2, w_3, p4, p5)
  else
    let x_7 : (Nat → Int32) × (Nat → Int64) × (Nat → Int32) × (Nat → Int32) × (Nat → Int32) := lp (bd_X4_goOn3_58 c0 p3 S F n) ((Z 4).toNatClampNeg) (Z_1, t_2, w_3, p4, p5)
    ((x_7.1), (x_7.2.1), (x_7.2.2.1), (x_7.2.2.2.1), (x_7.2.2.2.2)))
set_option maxRecDepth 100000 in
theorem sq_X4_goOn3_1 (Z : Nat → Int32) (t0 : Nat → Int64) (w0 : Nat → Int32) (c0 : Nat → Int32) (p3 : Nat → Int32) (p4 : Nat → Int32) (p5 : Nat → Int32) (S : Nat → Int32) (F : Nat → Int32) (n : Int32) (Z_1 : Nat → Int32) (t_2 : Nat → Int64) (w_3 : Nat → Int32) (eZ_1 : Z_1 = ((sp_X4_meet Z t0 w0 p3 3).1)) (et_2 : t_2 = ((sp_X4_meet Z t0 w0 p3 3).2.1)) (ew_3 : w_3 = ((sp_X4_meet Z t0 w0 p3 3).2.2)) (c_4 : n ≤ 3) : sp_X4_goOn3 Z t0 w0 c0 p3 p4 p5 S F n = (Z_1, t_2, w_3, p4, p5) := by subst ew_3; subst et_2; subst eZ_1; simp only [sp_X4_goOn3, if_pos c_4]
set_option maxRecDepth 100000 in
theorem sq_X4_goOn3_2 (Z : Nat → Int32) (t0 : Nat → Int64) (w0 : Nat → Int32) (c0 : Nat → Int32) (p3 : Nat → Int32) (p4 : Nat → Int32) (p5 : Nat → Int32) (S : Nat → Int32) (F : Nat → Int32) (n : Int32) (Z_1 : Nat → Int32) (t_2 : Nat → Int64) (w_3 : Nat → Int32) (x_7 : (Nat → Int32) × (Nat → Int64) × (Nat → Int32) × (Nat → Int32) × (Nat → Int32)) (eZ_1 : Z_1 = ((sp_X4_meet Z t0 w0 p3 3).1)) (et_2 : t_2 = ((sp_X4_meet Z t0 w0 p3 3).2.1)) (ew_3 : w_3 = ((sp_X4_meet Z t0 w0 p3 3).2.2)) (ex_7 : x_7 = lp (bd_X4_goOn3_58 c0 p3 S F n) ((Z 4).toNatClampNeg) (Z_1, t_2, w_3, p4, p5)) (c_4 : ¬ (n ≤ 3)) : sp_X4_goOn3 Z t0 w0 c0 p3 p4 p5 S F n = ((x_7.1), (x_7.2.1), (x_7.2.2.1), (x_7.2.2.2.1), (x_7.2.2.2.2)) := by subst ex_7; subst ew_3; subst et_2; subst eZ_1; simp only [sp_X4_goOn3, if_neg c_4]
set_option maxHeartbeats 4000000 in
set_option maxRecDepth 100000 in
theorem c_X4_goOn3 (l : Launch) (D : va_G) (cI cJ cO : ClassId) (g0 : Nat) (pa : Nat) (tb : Nat) (fw : Nat) (ch : Nat) (pr : Nat → Nat) (b0 : Nat) (b1 : Nat) (Z : Nat → Int32) (t0 : Nat → Int64) (w0 : Nat → Int32) (c0 : Nat → Int32) (p3 : Nat → Int32) (p4 : Nat → Int32) (p5 : Nat → Int32) (S : Nat → Int32) (F : Nat → Int32) (n : Int32) (hc0 : ¬ Z 4 < 0) (hc4 : (Z 4).toNatClampNeg ≤ 4) : MV l D (TY cI cJ cO) yX4_goOn wsX4_goOn (RM 6) [.ref g0, .int 3, .int n] [(g0, oX4 pa tb fw ch Z), (pa, .inl (cO, 6, .inr (.inr (.inr (.inr (fun k => some (pr k))))))), (tb, .inl (cJ, 2048, .inr (.inl t0))), (fw, .inl (cI, 5, .inl w0)), (ch, .inl (cI, 4, .inl c0)), ((pr 3), oX2 b0 b1 p3), ((pr 4), oX2 b0 b1 p4), ((pr 5), oX2 b0 b1 p5), (b0, oX5 S), (b1, oX0 F)] [(g0, oX4 pa tb fw ch ((sp_X4_goOn3 Z t0 w0 c0 p3 p4 p5 S F n).1)), (pa, .inl (cO, 6, .inr (.inr (.inr (.inr (fun k => some (pr k))))))), (tb, .inl (cJ, 2048, .inr (.inl ((sp_X4_goOn3 Z t0 w0 c0 p3 p4 p5 S F n).2.1)))), (fw, .inl (cI, 5, .inl ((sp_X4_goOn3 Z t0 w0 c0 p3 p4 p5 S F n).2.2.1))), (ch, .inl (cI, 4, .inl c0)), ((pr 3), oX2 b0 b1 p3), ((pr 4), oX2 b0 b1 ((sp_X4_goOn3 Z t0 w0 c0 p3 p4 p5 S F n).2.2.2.1)), ((pr 5), oX2 b0 b1 ((sp_X4_goOn3 Z t0 w0 c0 p3 p4 p5 S F n).2.2.2.2)), (b0, oX5 S), (b1, oX0 F)] := by
  refine k_entV (cc := cX4_goOn) (maxL := 6) (lv := [(0, .ref g0), (1, .int 3), (2, .int n)]) (by decide +kernel) rfl (Nat.le_of_ble_eq_true rfl) rfl ?_
  intro p e s m below meth c A Q ls hx hb hml hts hown hA hS hP hD hK hN hl hret
  have hown : s.vm.findClass RX4 = some m.cls := hown
  have hi4 : ∀ w ∈ wsX40, w ∈ wsX4_goOn := fun w h => List.mem_cons_of_mem _ (List.mem_append_left _ (List.mem_append_left _ (List.mem_append_left _ (List.mem_append_right _ h))))
  have hf11 := hts (.fieldLink RX4 11 "PressGuard$Search" "path" "[LPressGuard$Press;") (by decide +kernel)
  have hf25 := hts (.fieldLink RX4 25 "PressGuard$Search" "choices" "[I") (by decide +kernel)
  have hf28 := hts (.fieldLink RX4 28 "PressGuard$Search" "choiceCount" "I") (by decide +kernel)
  refine lv_iload_n hx hb dX4_goOn_0 rfl (lv_at hl 1 rfl) ?_
  refine lv_iconst (v := 0) hx hb dX4_goOn_1 (by decide +kernel) ?_
  refine lv_iconst (v := 5) hx hb dX4_goOn_2 (by decide +kernel) ?_
  refine k_SNi ⟨hx, hb, hml, hown, hts⟩ (c_X8_within l D cI cJ cO 3 0 5) (va_cnB 3 hts gX4_goOn_X8_within_n65 rfl rfl rfl (hN.1 1 _ rfl) (hts (.initialized RX8) (by decide +kernel)) (by decide +kernel) ⟨Nat.le_of_ble_eq_true rfl, Nat.le_of_ble_eq_true rfl⟩) (hts (.static yX8_within) (by decide +kernel)) hK hN hP hD hS hA [] rfl rfl rfl (ws' := [(g0, oX4 pa tb fw ch Z), (pa, .inl (cO, 6, .inr (.inr (.inr (.inr (fun k => some (pr k))))))), (tb, .inl (cJ, 2048, .inr (.inl t0))), (fw, .inl (cI, 5, .inl w0)), (ch, .inl (cI, 4, .inl c0)), ((pr 3), oX2 b0 b1 p3), ((pr 4), oX2 b0 b1 p4), ((pr 5), oX2 b0 b1 p5), (b0, oX5 S), (b1, oX0 F)]) rfl rfl hl.1 rfl (Nat.le_of_ble_eq_true rfl) dX4_goOn_3 ⟨Nat.le_refl _, Nat.le_refl _⟩ (fun H locs hP hD hS => ?_)
  refine lv_if_ne (tgt := 10) hx hb dX4_goOn_6 (by decide) (fun _ => ?_) (fun q => absurd q (by decide +kernel))
  refine lv_aload_n hx hb dX4_goOn_10 rfl (lv_at hl 0 rfl) ?_
  refine k_get hx hb hts hi4 hown hK hP 0 rfl rfl 0 (by decide) hf11 (.ref pa) rfl dX4_goOn_11 ?_
  refine lv_iload_n hx hb dX4_goOn_14 rfl (lv_at hl 1 rfl) ?_
  refine k_aald hx hb hK hP 1 2 rfl rfl 3 (by decide +kernel) (vp_in_iff.mpr (by decide +kernel)) dX4_goOn_15 ?_
  refine lv_astore_n (lv' := [(3, .ref (pr 3)), (0, .ref g0), (1, .int 3), (2, .int n)]) hx hb dX4_goOn_16 rfl hl (by decide) rfl (fun ls hl => ?_)
  refine lv_aload_n hx hb dX4_goOn_17 rfl (lv_at hl 0 rfl) ?_
  refine lv_ifnonnull (tgt := 22) hx hb dX4_goOn_18 (by decide) ?_
  refine lv_aload_n hx hb dX4_goOn_22 rfl (lv_at hl 1 rfl) ?_
  refine lv_aload_n hx hb dX4_goOn_23 rfl (lv_at hl 0 rfl) ?_
  refine lv_iload_n hx hb dX4_goOn_24 rfl (lv_at hl 2 rfl) ?_
  obtain ⟨Z_1, eZ_1⟩ : ∃ q : Nat → Int32, q = ((sp_X4_meet Z t0 w0 p3 3).1) := ⟨_, rfl⟩
  obtain ⟨t_2, et_2⟩ : ∃ q : Nat → Int64, q = ((sp_X4_meet Z t0 w0 p3 3).2.1) := ⟨_, rfl⟩
  obtain ⟨w_3, ew_3⟩ : ∃ q : Nat → Int32, q = ((sp_X4_meet Z t0 w0 p3 3).2.2) := ⟨_, rfl⟩
  refine k_Vv ⟨hx, hb, hml, hown, hts⟩ (c_X4_meet l D cI cJ cO g0 (pr 3) pa tb fw ch b0 b1 Z t0 w0 p3 3) (ci := 4) (q0 := 0) rfl rfl (cwV 2 hts gX4_goOn_X4_meet rfl rfl rfl (by decide +kernel) ⟨Nat.le_of_ble_eq_true rfl, Nat.le_of_ble_eq_true rfl⟩) hK hN hP hD hS hA [0, 2, 3, 5] rfl rfl rfl (ws' := [(g0, oX4 pa tb fw ch Z_1), (pa, .inl (cO, 6, .inr (.inr (.inr (.inr (fun k => some (pr k))))))), (tb, .inl (cJ, 2048, .inr (.inl t_2))), (fw, .inl (cI, 5, .inl w_3)), (ch, .inl (cI, 4, .inl c0)), ((pr 3), oX2 b0 b1 p3), ((pr 4), oX2 b0 b1 p4), ((pr 5), oX2 b0 b1 p5), (b0, oX5 S), (b1, oX0 F)]) (by rw [eZ_1, et_2, ew_3]; rfl) rfl hl.1 rfl (Nat.le_of_ble_eq_true rfl) dX4_goOn_25 ⟨Nat.le_refl _, Nat.le_refl _⟩ (fun H locs hP hD hS => ?_)
  refine lv_iload_n hx hb dX4_goOn_28 rfl (lv_at hl 2 rfl) ?_
  refine lv_iload_n hx hb dX4_goOn_29 rfl (lv_at hl 3 rfl) ?_
  refine lv_icmp_ge (tgt := 38) hx hb dX4_goOn_30 (by decide) (fun c_4 => ?_) (fun c_4 => ?_)
  · skip
    have hsp : sp_X4_goOn3 Z t0 w0 c0 p3 p4 p5 S F n = (Z_1, t_2, w_3, p4, p5) := sq_X4_goOn3_1 Z t0 w0 c0 p3 p4 p5 S F n Z_1 t_2 w_3 eZ_1 et_2 ew_3 c_4
    exact hret _ _ _ _ (by rw [hsp]; exact hP) hS dX4_goOn_38
  · skip
    refine lv_iload_n hx hb dX4_goOn_33 rfl (lv_at hl 2 rfl) ?_
    refine lv_iconst (v := 5) hx hb dX4_goOn_34 (by decide +kernel) ?_
    refine lv_icmp_lt (tgt := 39) hx hb dX4_goOn_35 (by decide) (fun _ => ?_) (fun q => absurd q (by decide +kernel))
    refine lv_aload_n hx hb dX4_goOn_39 rfl (lv_at hl 1 rfl) ?_
    refine k_get hx hb hts hi4 hown hK hP 0 rfl rfl 0 (by decide) hf11 (.ref pa) rfl dX4_goOn_40 ?_
    refine lv_iload_n hx hb dX4_goOn_43 rfl (lv_at hl 2 rfl) ?_
    refine lv_iconst (v := 1) hx hb dX4_goOn_44 (by decide +kernel) ?_
    refine lv_iadd hx hb dX4_goOn_45 ?_
    refine lv_topi (fun z_5 ez_5 => ?_)
    obtain rfl : z_5 = 4 := ez_5.trans (by decide +kernel)
    refine k_aald hx hb hK hP 1 2 rfl rfl 4 (by decide +kernel) (vp_in_iff.mpr (by decide +kernel)) dX4_goOn_46 ?_
    refine lv_astore (lv' := [(4, .ref (pr 4)), (3, .ref (pr 3)), (0, .ref g0), (1, .int 3), (2, .int n)]) hx hb dX4_goOn_47 hl (by decide) rfl (fun ls hl => ?_)
    refine lv_aload hx hb dX4_goOn_49 (lv_at hl 0 rfl) ?_
    refine lv_ifnonnull (tgt := 55) hx hb dX4_goOn_51 (by decide) ?_
    refine lv_iconst (v := 0) hx hb dX4_goOn_55 (by decide +kernel) ?_
    refine lv_istore (lv' := [(5, .int 0), (4, .ref (pr 4)), (3, .ref (pr 3)), (0, .ref g0), (1, .int 3), (2, .int n)]) hx hb dX4_goOn_56 hl (by decide) rfl (fun ls hl => ?_)
    obtain ⟨fx_7, hfx_7⟩ : ∃ f : Nat → (Nat → Int32) × (Nat → Int64) × (Nat → Int32) × (Nat → Int32) × (Nat → Int32) → (Nat → Int32) × (Nat → Int64) × (Nat → Int32) × (Nat → Int32) × (Nat → Int32), f = (bd_X4_goOn3_58 c0 p3 S F n) := ⟨_, rfl⟩
    have hN_x_7 : (Z 4).toNatClampNeg < 2 ^ 31 := clamp_lt _
    have Lx_7 : ∀ (nn i_6 : Nat) (x_7 : (Nat → Int32) × (Nat → Int64) × (Nat → Int32) × (Nat → Int32) × (Nat → Int32)), (Z 4).toNatClampNeg + 1 ≤ i_6 + nn → i_6 ≤ (Z 4).toNatClampNeg → x_7 = lp fx_7 i_6 (Z_1, t_2, w_3, p4, p5) → (x_7.1) 4 = Z 4 → ∀ (H : Heap) (locs : List Loc), va_P D vwCl [(g0, oX4 pa tb fw ch (x_7.1)), (pa, .inl (cO, 6, .inr (.inr (.inr (.inr (fun k => some (pr k))))))), (tb, .inl (cJ, 2048, .inr (.inl (x_7.2.1)))), (fw, .inl (cI, 5, .inl (x_7.2.2.1))), (ch, .inl (cI, 4, .inl c0)), ((pr 3), oX2 b0 b1 p3), ((pr 4), oX2 b0 b1 (x_7.2.2.2.1)), ((pr 5), oX2 b0 b1 (x_7.2.2.2.2)), (b0, oX5 S), (b1, oX0 F)] H → va_D A [(g0, oX4 pa tb fw ch (x_7.1)), (pa, .inl (cO, 6, .inr (.inr (.inr (.inr (fun k => some (pr k))))))), (tb, .inl (cJ, 2048, .inr (.inl (x_7.2.1)))), (fw, .inl (cI, 5, .inl (x_7.2.2.1))), (ch, .inl (cI, 4, .inl c0)), ((pr 3), oX2 b0 b1 p3), ((pr 4), oX2 b0 b1 (x_7.2.2.2.1)), ((pr 5), oX2 b0 b1 (x_7.2.2.2.2)), (b0, oX5 S), (b1, oX0 F)] → va_S A s.heap H locs → ∀ ls : Array Slot, lv_has ls 6 [(0, .ref g0), (1, .int 3), (2, .int n), (3, .ref (pr 3)), (4, .ref (pr 4)), (5, .int (nI i_6))] → W p l e (RM 6) s m ([.ref g0, .int 3, .int n] : List Value).toArray below meth c H locs 0 0 Q (F0 m 58 ls []) := by
      intro nn_x_7
      induction nn_x_7 with
      | zero => intro i_6 x_7 h1 h2; exact absurd h1 (by omega)
      | succ nn_x_7 ih_x_7 =>
        intro i_6 x_7 hn_x_7 hi_i_6 ex_x_7 hv_x_7 H locs hP hD hS ls hl
        have hB_x_7 : (((x_7.1) 4) : Int32) = nI ((Z 4).toNatClampNeg) := hv_x_7.trans (nI_self hc0)
        refine lv_iload hx hb dX4_goOn_58 (lv_at hl 5 rfl) ?_
        refine lv_aload_n hx hb dX4_goOn_60 rfl (lv_at hl 0 rfl) ?_
        refine k_get hx hb hts hi4 hown hK hP 0 rfl rfl 4 (by decide) hf28 (.int ((x_7.1) 4)) rfl dX4_goOn_61 ?_
        refine lv_icmp_ge (tgt := 109) hx hb dX4_goOn_64 (by decide) (fun c_8 => ?_) (fun c_8 => ?_)
        · skip
          have hq_x_7 : i_6 = (Z 4).toNatClampNeg := k_eq hB_x_7 c_8 hi_i_6 hN_x_7
          have ex_7 : x_7 = lp (bd_X4_goOn3_58 c0 p3 S F n) ((Z 4).toNatClampNeg) (Z_1, t_2, w_3, p4, p5) := by rw [ex_x_7, hfx_7, hq_x_7]
          have hsp : sp_X4_goOn3 Z t0 w0 c0 p3 p4 p5 S F n = ((x_7.1), (x_7.2.1), (x_7.2.2.1), (x_7.2.2.2.1), (x_7.2.2.2.2)) := sq_X4_goOn3_2 Z t0 w0 c0 p3 p4 p5 S F n Z_1 t_2 w_3 x_7 eZ_1 et_2 ew_3 ex_7 c_4
          exact hret _ _ _ _ (by rw [hsp]; exact hP) hS dX4_goOn_109
        · skip
          have hlt_i_6 : i_6 < (Z 4).toNatClampNeg := k_lt hB_x_7 c_8 hi_i_6 hN_x_7
          refine lv_iload hx hb dX4_goOn_67 (lv_at hl 5 rfl) ?_
          refine lv_aload_n hx hb dX4_goOn_69 rfl (lv_at hl 0 rfl) ?_
          refine k_get hx hb hts hi4 hown hK hP 0 rfl rfl 3 (by decide) hf25 (.ref ch) rfl dX4_goOn_70 ?_
          refine va_alen hx hb hK hP 4 0 rfl rfl (v := 4) (show Int32.ofNat 4 = 4 by decide +kernel) dX4_goOn_73 ?_
          refine lv_icmp_ge (tgt := 109) hx hb dX4_goOn_74 (by decide) (fun q => absurd q (show ¬ (nI 4 ≤ (nI i_6)) from nI_ge (by omega) (by decide))) (fun _ => ?_)
          refine lv_aload hx hb dX4_goOn_77 (lv_at hl 4 rfl) ?_
          refine lv_aload_n hx hb dX4_goOn_79 rfl (lv_at hl 3 rfl) ?_
          obtain ⟨P_9, eP_9⟩ : ∃ q : Nat → Int32, q = (sp_X2_copyFrom (x_7.2.2.2.1) p3) := ⟨_, rfl⟩
          refine k_Vv ⟨hx, hb, hml, hown, hts⟩ (c_X2_copyFrom l D cI cJ cO (pr 4) (pr 3) b0 b1 (x_7.2.2.2.1) p3) (ci := 2) (q0 := 6) rfl rfl (cwV 1 hts gX4_goOn_X2_copyFrom rfl rfl rfl (by decide +kernel) ⟨Nat.le_of_ble_eq_true rfl, Nat.le_of_ble_eq_true rfl⟩) hK hN hP hD hS hA [6, 5] rfl rfl rfl (ws' := [(g0, oX4 pa tb fw ch (x_7.1)), (pa, .inl (cO, 6, .inr (.inr (.inr (.inr (fun k => some (pr k))))))), (tb, .inl (cJ, 2048, .inr (.inl (x_7.2.1)))), (fw, .inl (cI, 5, .inl (x_7.2.2.1))), (ch, .inl (cI, 4, .inl c0)), ((pr 3), oX2 b0 b1 p3), ((pr 4), oX2 b0 b1 P_9), ((pr 5), oX2 b0 b1 (x_7.2.2.2.2)), (b0, oX5 S), (b1, oX0 F)]) (by rw [eP_9]; rfl) rfl hl.1 rfl (Nat.le_of_ble_eq_true rfl) dX4_goOn_80 ⟨Nat.le_refl _, Nat.le_refl _⟩ (fun H locs hP hD hS => ?_)
          refine lv_aload hx hb dX4_goOn_83 (lv_at hl 4 rfl) ?_
          refine lv_aload_n hx hb dX4_goOn_85 rfl (lv_at hl 0 rfl) ?_
          refine k_get hx hb hts hi4 hown hK hP 0 rfl rfl 3 (by decide) hf25 (.ref ch) rfl dX4_goOn_86 ?_
          refine lv_iload hx hb dX4_goOn_89 (lv_at hl 5 rfl) ?_
          refine k_iald hx hb hK hP 4 0 rfl rfl i_6 (nI_clamp (by omega)) (vp_in_nI (by omega) (by omega)) dX4_goOn_91 ?_
          obtain ⟨P_10, eP_10⟩ : ∃ q : Nat → Int32, q = (sp_X2_advance P_9 S F (c0 i_6)) := ⟨_, rfl⟩
          refine k_Vv ⟨hx, hb, hml, hown, hts⟩ (c_X2_advance l D cI cJ cO (pr 4) b0 b1 P_9 S F (c0 i_6)) (ci := 2) (q0 := 6) rfl rfl (cwV 1 hts gX4_goOn_X2_advance rfl rfl rfl (by decide +kernel) ⟨Nat.le_of_ble_eq_true rfl, Nat.le_of_ble_eq_true rfl⟩) hK hN hP hD hS hA [6, 8, 9] rfl rfl rfl (ws' := [(g0, oX4 pa tb fw ch (x_7.1)), (pa, .inl (cO, 6, .inr (.inr (.inr (.inr (fun k => some (pr k))))))), (tb, .inl (cJ, 2048, .inr (.inl (x_7.2.1)))), (fw, .inl (cI, 5, .inl (x_7.2.2.1))), (ch, .inl (cI, 4, .inl c0)), ((pr 3), oX2 b0 b1 p3), ((pr 4), oX2 b0 b1 P_10), ((pr 5), oX2 b0 b1 (x_7.2.2.2.2)), (b0, oX5 S), (b1, oX0 F)]) (by rw [eP_10]; rfl) rfl hl.1 rfl (Nat.le_of_ble_eq_true rfl) dX4_goOn_92 ⟨Nat.le_refl _, Nat.le_refl _⟩ (fun H locs hP hD hS => ?_)
          refine lv_aload_n hx hb dX4_goOn_95 rfl (lv_at hl 0 rfl) ?_
          refine lv_iload_n hx hb dX4_goOn_96 rfl (lv_at hl 1 rfl) ?_
          refine lv_iconst (v := 1) hx hb dX4_goOn_97 (by decide +kernel) ?_
          refine lv_iadd hx hb dX4_goOn_98 ?_
          refine lv_topi (fun z_11 ez_11 => ?_)
          obtain rfl : z_11 = 4 := ez_11.trans (by decide +kernel)
          refine lv_iload_n hx hb dX4_goOn_99 rfl (lv_at hl 2 rfl) ?_
          obtain ⟨Z_12, eZ_12⟩ : ∃ q : Nat → Int32, q = ((sp_X4_goOn4 (x_7.1) (x_7.2.1) (x_7.2.2.1) c0 P_10 (x_7.2.2.2.2) S F n).1) := ⟨_, rfl⟩
          obtain ⟨t_13, et_13⟩ : ∃ q : Nat → Int64, q = ((sp_X4_goOn4 (x_7.1) (x_7.2.1) (x_7.2.2.1) c0 P_10 (x_7.2.2.2.2) S F n).2.1) := ⟨_, rfl⟩
          obtain ⟨w_14, ew_14⟩ : ∃ q : Nat → Int32, q = ((sp_X4_goOn4 (x_7.1) (x_7.2.1) (x_7.2.2.1) c0 P_10 (x_7.2.2.2.2) S F n).2.2.1) := ⟨_, rfl⟩
          obtain ⟨p_15, ep_15⟩ : ∃ q : Nat → Int32, q = ((sp_X4_goOn4 (x_7.1) (x_7.2.1) (x_7.2.2.1) c0 P_10 (x_7.2.2.2.2) S F n).2.2.2) := ⟨_, rfl⟩
          refine k_Sv ⟨hx, hb, hml, hown, hts⟩ (c_X4_goOn4 l D cI cJ cO g0 pa tb fw ch pr b0 b1 (x_7.1) (x_7.2.1) (x_7.2.2.1) c0 P_10 (x_7.2.2.2.2) S F n (by rw [hv_x_7]; exact hc0) (by rw [hv_x_7]; exact hc4)) (va_cwS 3 hts gX4_goOn_X4_goOn rfl rfl rfl (by decide +kernel) ⟨Nat.le_of_ble_eq_true rfl, Nat.le_of_ble_eq_true rfl⟩) hK hN hP hD hS hA [0, 1, 2, 3, 4, 6, 7, 8, 9] rfl rfl rfl (ws' := [(g0, oX4 pa tb fw ch Z_12), (pa, .inl (cO, 6, .inr (.inr (.inr (.inr (fun k => some (pr k))))))), (tb, .inl (cJ, 2048, .inr (.inl t_13))), (fw, .inl (cI, 5, .inl w_14)), (ch, .inl (cI, 4, .inl c0)), ((pr 3), oX2 b0 b1 p3), ((pr 4), oX2 b0 b1 P_10), ((pr 5), oX2 b0 b1 p_15), (b0, oX5 S), (b1, oX0 F)]) (by rw [eZ_12, et_13, ew_14, ep_15]; rfl) rfl hl.1 rfl (Nat.le_of_ble_eq_true rfl) dX4_goOn_100 ⟨Nat.le_refl _, Nat.le_refl _⟩ (fun H locs hP hD hS => ?_)
          refine lv_iinc (v := (nI (i_6 + 1))) (lv' := [(5, .int (nI (i_6 + 1))), (0, .ref g0), (1, .int 3), (2, .int n), (3, .ref (pr 3)), (4, .ref (pr 4))]) hx hb dX4_goOn_103 hl (k := 5) rfl (nI_1 i_6) (by decide) rfl (fun ls hl => ?_)
          refine lv_goto (tgt := 58) hx hb dX4_goOn_106 (by decide) ?_
          exact ih_x_7 (i_6 + 1) (Z_12, t_13, w_14, P_10, p_15) (by omega) (by omega) (by subst ep_15; subst ew_14; subst et_13; subst eZ_12; subst eP_10; subst eP_9; rw [show lp fx_7 (i_6 + 1) (Z_1, t_2, w_3, p4, p5) = fx_7 i_6 (lp fx_7 i_6 (Z_1, t_2, w_3, p4, p5)) from rfl, ← ex_x_7, hfx_7]; try (first | (rfl; done) | rfl)) (by (try simp only [ep_15, ew_14, et_13, eZ_12, eP_10, eP_9, ew_3, et_2, eZ_1, meet_4, goOn4_4, upd]); first | done | rfl | exact hv_x_7 | (simp only [hv_x_7])) _ _ hP hD hS _ (lv_sub hl [1, 2, 3, 4, 5, 0] rfl)
    exact Lx_7 ((Z 4).toNatClampNeg + 1) 0 (Z_1, t_2, w_3, p4, p5) (by omega) (Nat.zero_le _) rfl (by (try simp only [ew_3, et_2, eZ_1, meet_4, goOn4_4, upd]); first | done | rfl) _ _ hP hD hS _ (lv_sub hl [3, 4, 5, 2, 1, 0] rfl)

theorem goOn3_4 (Z : Nat → Int32) (t0 : Nat → Int64) (w0 : Nat → Int32) (c0 : Nat → Int32) (p3 : Nat → Int32) (p4 : Nat → Int32) (p5 : Nat → Int32) (S : Nat → Int32) (F : Nat → Int32) (n : Int32) : (sp_X4_goOn3 Z t0 w0 c0 p3 p4 p5 S F n).1 4 = Z 4 := by
  simp only [sp_X4_goOn3]
  split
  · exact meet_4 Z t0 w0 p3 3
  · refine lp_inv (I := fun x : (Nat → Int32) × (Nat → Int64) × (Nat → Int32) × (Nat → Int32) × (Nat → Int32) => x.1 4 = Z 4) (fun i x hx => ?_) _ _ (meet_4 Z t0 w0 p3 3)
    simp only [bd_X4_goOn3_58]
    exact (goOn4_4 _ _ _ _ _ _ _ _ _).trans hx

def bd_X4_goOn2_58 (c0 : Nat → Int32) (p2 : Nat → Int32) (S : Nat → Int32) (F : Nat → Int32) (n : Int32) (i_6 : Nat) (x_7 : (Nat → Int32) × (Nat → Int64) × (Nat → Int32) × (Nat → Int32) × (Nat → Int32) × (Nat → Int32)) : (Nat → Int32) × (Nat → Int64) × (Nat → Int32) × (Nat → Int32) × (Nat → Int32) × (Nat → Int32) :=
  (let P_8 : Nat → Int32 := (sp_X2_copyFrom (x_7.2.2.2.1) p2); (let P_9 : Nat → Int32 := (sp_X2_advance P_8 S F (c0 i_6)); (let Z_11 : Nat → Int32 := ((sp_X4_goOn3 (x_7.1) (x_7.2.1) (x_7.2.2.1) c0 P_9 (x_7.2.2.2.2.1) (x_7.2.2.2.2.2) S F n).1); (let t_12 : Nat → Int64 := ((sp_X4_goOn3 (x_7.1) (x_7.2.1) (x_7.2.2.1) c0 P_9 (x_7.2.2.2.2.1) (x_7.2.2.2.2.2) S F n).2.1); (let w_13 : Nat → Int32 := ((sp_X4_goOn3 (x_7.1) (x_7.2.1) (x_7.2.2.1) c0 P_9 (x_7.2.2.2.2.1) (x_7.2.2.2.2.2) S F n).2.2.1); (let p_14 : Nat → Int32 := ((sp_X4_goOn3 (x_7.1) (x_7.2.1) (x_7.2.2.1) c0 P_9 (x_7.2.2.2.2.1) (x_7.2.2.2.2.2) S F n).2.2.2.1); (let p_15 : Nat → Int32 := ((sp_X4_goOn3 (x_7.1) (x_7.2.1) (x_7.2.2.1) c0 P_9 (x_7.2.2.2.2.1) (x_7.2.2.2.2.2) S F n).2.2.2.2); (Z_11, t_12, w_13, P_9, p_14, p_15))))))))
def sp_X4_goOn2 (Z : Nat → Int32) (t0 : Nat → Int64) (w0 : Nat → Int32) (c0 : Nat → Int32) (p2 : Nat → Int32) (p3 : Nat → Int32) (p4 : Nat → Int32) (p5 : Nat → Int32) (S : Nat → Int32) (F : Nat → Int32) (n : Int32) : (Nat → Int32) × (Nat → Int64) × (Nat → Int32) × (Nat → Int32) × (Nat → Int32) × (Nat → Int32) :=
  let Z_1 : Nat → Int32 := ((sp_X4_meet Z t0 w0 p2 2).1)
  let t_2 : Nat → Int64 := ((sp_X4_meet Z t0 w0 p2 2).2.1)
  let w_3 : Nat → Int32 := ((sp_X4_meet Z t0 w0 p2 2).2.2)
  (if n ≤ 2 then
    (Z_1, t_2, w_3, p3, p4, p5)
  else
    let x_7 : (Nat → Int32) × (Nat → Int64) × (Nat → Int32) × (Nat → Int32) × (Nat → Int32) × (Nat → Int32) := lp (bd_X4_goOn2_58 c0 p2 S F n) ((Z 4).toNatClampNeg) (Z_1, t_2, w_3, p3, p4, p5)
    ((x_7.1), (x_7.2.1), (x_7.2.2.1), (x_7.2.2.2.1), (x_7.2.2.2.2.1), (x_7.2.2.2.2.2)))
set_option maxRecDepth 100000 in
theorem sq_X4_goOn2_1 (Z : Nat → Int32) (t0 : Nat → Int64) (w0 : Nat → Int32) (c0 : Nat → Int32) (p2 : Nat → Int32) (p3 : Nat → Int32) (p4 : Nat → Int32) (p5 : Nat → Int32) (S : Nat → Int32) (F : Nat → Int32) (n : Int32) (Z_1 : Nat → Int32) (t_2 : Nat → Int64) (w_3 : Nat → Int32) (eZ_1 : Z_1 = ((sp_X4_meet Z t0 w0 p2 2).1)) (et_2 : t_2 = ((sp_X4_meet Z t0 w0 p2 2).2.1)) (ew_3 : w_3 = ((sp_X4_meet Z t0 w0 p2 2).2.2)) (c_4 : n ≤ 2) : sp_X4_goOn2 Z t0 w0 c0 p2 p3 p4 p5 S F n = (Z_1, t_2, w_3, p3, p4, p5) := by subst ew_3; subst et_2; subst eZ_1; simp only [sp_X4_goOn2, if_pos c_4]
set_option maxRecDepth 100000 in
theorem sq_X4_goOn2_2 (Z : Nat → Int32) (t0 : Nat → Int64) (w0 : Nat → Int32) (c0 : Nat → Int32) (p2 : Nat → Int32) (p3 : Nat → Int32) (p4 : Nat → Int32) (p5 : Nat → Int32) (S : Nat → Int32) (F : Nat → Int32) (n : Int32) (Z_1 : Nat → Int32) (t_2 : Nat → Int64) (w_3 : Nat → Int32) (x_7 : (Nat → Int32) × (Nat → Int64) × (Nat → Int32) × (Nat → Int32) × (Nat → Int32) × (Nat → Int32)) (eZ_1 : Z_1 = ((sp_X4_meet Z t0 w0 p2 2).1)) (et_2 : t_2 = ((sp_X4_meet Z t0 w0 p2 2).2.1)) (ew_3 : w_3 = ((sp_X4_meet Z t0 w0 p2 2).2.2)) (ex_7 : x_7 = lp (bd_X4_goOn2_58 c0 p2 S F n) ((Z 4).toNatClampNeg) (Z_1, t_2, w_3, p3, p4, p5)) (c_4 : ¬ (n ≤ 2)) : sp_X4_goOn2 Z t0 w0 c0 p2 p3 p4 p5 S F n = ((x_7.1), (x_7.2.1), (x_7.2.2.1), (x_7.2.2.2.1), (x_7.2.2.2.2.1), (x_7.2.2.2.2.2)) := by subst ex_7; subst ew_3; subst et_2; subst eZ_1; simp only [sp_X4_goOn2, if_neg c_4]
set_option maxHeartbeats 4000000 in
set_option maxRecDepth 100000 in
theorem c_X4_goOn2 (l : Launch) (D : va_G) (cI cJ cO : ClassId) (g0 : Nat) (pa : Nat) (tb : Nat) (fw : Nat) (ch : Nat) (pr : Nat → Nat) (b0 : Nat) (b1 : Nat) (Z : Nat → Int32) (t0 : Nat → Int64) (w0 : Nat → Int32) (c0 : Nat → Int32) (p2 : Nat → Int32) (p3 : Nat → Int32) (p4 : Nat → Int32) (p5 : Nat → Int32) (S : Nat → Int32) (F : Nat → Int32) (n : Int32) (hc0 : ¬ Z 4 < 0) (hc4 : (Z 4).toNatClampNeg ≤ 4) : MV l D (TY cI cJ cO) yX4_goOn wsX4_goOn (RM 7) [.ref g0, .int 2, .int n] [(g0, oX4 pa tb fw ch Z), (pa, .inl (cO, 6, .inr (.inr (.inr (.inr (fun k => some (pr k))))))), (tb, .inl (cJ, 2048, .inr (.inl t0))), (fw, .inl (cI, 5, .inl w0)), (ch, .inl (cI, 4, .inl c0)), ((pr 2), oX2 b0 b1 p2), ((pr 3), oX2 b0 b1 p3), ((pr 4), oX2 b0 b1 p4), ((pr 5), oX2 b0 b1 p5), (b0, oX5 S), (b1, oX0 F)] [(g0, oX4 pa tb fw ch ((sp_X4_goOn2 Z t0 w0 c0 p2 p3 p4 p5 S F n).1)), (pa, .inl (cO, 6, .inr (.inr (.inr (.inr (fun k => some (pr k))))))), (tb, .inl (cJ, 2048, .inr (.inl ((sp_X4_goOn2 Z t0 w0 c0 p2 p3 p4 p5 S F n).2.1)))), (fw, .inl (cI, 5, .inl ((sp_X4_goOn2 Z t0 w0 c0 p2 p3 p4 p5 S F n).2.2.1))), (ch, .inl (cI, 4, .inl c0)), ((pr 2), oX2 b0 b1 p2), ((pr 3), oX2 b0 b1 ((sp_X4_goOn2 Z t0 w0 c0 p2 p3 p4 p5 S F n).2.2.2.1)), ((pr 4), oX2 b0 b1 ((sp_X4_goOn2 Z t0 w0 c0 p2 p3 p4 p5 S F n).2.2.2.2.1)), ((pr 5), oX2 b0 b1 ((sp_X4_goOn2 Z t0 w0 c0 p2 p3 p4 p5 S F n).2.2.2.2.2)), (b0, oX5 S), (b1, oX0 F)] := by
  refine k_entV (cc := cX4_goOn) (maxL := 6) (lv := [(0, .ref g0), (1, .int 2), (2, .int n)]) (by decide +kernel) rfl (Nat.le_of_ble_eq_true rfl) rfl ?_
  intro p e s m below meth c A Q ls hx hb hml hts hown hA hS hP hD hK hN hl hret
  have hown : s.vm.findClass RX4 = some m.cls := hown
  have hi4 : ∀ w ∈ wsX40, w ∈ wsX4_goOn := fun w h => List.mem_cons_of_mem _ (List.mem_append_left _ (List.mem_append_left _ (List.mem_append_left _ (List.mem_append_right _ h))))
  have hf11 := hts (.fieldLink RX4 11 "PressGuard$Search" "path" "[LPressGuard$Press;") (by decide +kernel)
  have hf25 := hts (.fieldLink RX4 25 "PressGuard$Search" "choices" "[I") (by decide +kernel)
  have hf28 := hts (.fieldLink RX4 28 "PressGuard$Search" "choiceCount" "I") (by decide +kernel)
  refine lv_iload_n hx hb dX4_goOn_0 rfl (lv_at hl 1 rfl) ?_
  refine lv_iconst (v := 0) hx hb dX4_goOn_1 (by decide +kernel) ?_
  refine lv_iconst (v := 5) hx hb dX4_goOn_2 (by decide +kernel) ?_
  refine k_SNi ⟨hx, hb, hml, hown, hts⟩ (c_X8_within l D cI cJ cO 2 0 5) (va_cnB 3 hts gX4_goOn_X8_within_n65 rfl rfl rfl (hN.1 1 _ rfl) (hts (.initialized RX8) (by decide +kernel)) (by decide +kernel) ⟨Nat.le_of_ble_eq_true rfl, Nat.le_of_ble_eq_true rfl⟩) (hts (.static yX8_within) (by decide +kernel)) hK hN hP hD hS hA [] rfl rfl rfl (ws' := [(g0, oX4 pa tb fw ch Z), (pa, .inl (cO, 6, .inr (.inr (.inr (.inr (fun k => some (pr k))))))), (tb, .inl (cJ, 2048, .inr (.inl t0))), (fw, .inl (cI, 5, .inl w0)), (ch, .inl (cI, 4, .inl c0)), ((pr 2), oX2 b0 b1 p2), ((pr 3), oX2 b0 b1 p3), ((pr 4), oX2 b0 b1 p4), ((pr 5), oX2 b0 b1 p5), (b0, oX5 S), (b1, oX0 F)]) rfl rfl hl.1 rfl (Nat.le_of_ble_eq_true rfl) dX4_goOn_3 ⟨Nat.le_refl _, Nat.le_refl _⟩ (fun H locs hP hD hS => ?_)
  refine lv_if_ne (tgt := 10) hx hb dX4_goOn_6 (by decide) (fun _ => ?_) (fun q => absurd q (by decide +kernel))
  refine lv_aload_n hx hb dX4_goOn_10 rfl (lv_at hl 0 rfl) ?_
  refine k_get hx hb hts hi4 hown hK hP 0 rfl rfl 0 (by decide) hf11 (.ref pa) rfl dX4_goOn_11 ?_
  refine lv_iload_n hx hb dX4_goOn_14 rfl (lv_at hl 1 rfl) ?_
  refine k_aald hx hb hK hP 1 2 rfl rfl 2 (by decide +kernel) (vp_in_iff.mpr (by decide +kernel)) dX4_goOn_15 ?_
  refine lv_astore_n (lv' := [(3, .ref (pr 2)), (0, .ref g0), (1, .int 2), (2, .int n)]) hx hb dX4_goOn_16 rfl hl (by decide) rfl (fun ls hl => ?_)
  refine lv_aload_n hx hb dX4_goOn_17 rfl (lv_at hl 0 rfl) ?_
  refine lv_ifnonnull (tgt := 22) hx hb dX4_goOn_18 (by decide) ?_
  refine lv_aload_n hx hb dX4_goOn_22 rfl (lv_at hl 1 rfl) ?_
  refine lv_aload_n hx hb dX4_goOn_23 rfl (lv_at hl 0 rfl) ?_
  refine lv_iload_n hx hb dX4_goOn_24 rfl (lv_at hl 2 rfl) ?_
  obtain ⟨Z_1, eZ_1⟩ : ∃ q : Nat → Int32, q = ((sp_X4_meet Z t0 w0 p2 2).1) := ⟨_, rfl⟩
  obtain ⟨t_2, et_2⟩ : ∃ q : Nat → Int64, q = ((sp_X4_meet Z t0 w0 p2 2).2.1) := ⟨_, rfl⟩
  obtain ⟨w_3, ew_3⟩ : ∃ q : Nat → Int32, q = ((sp_X4_meet Z t0 w0 p2 2).2.2) := ⟨_, rfl⟩
  refine k_Vv ⟨hx, hb, hml, hown, hts⟩ (c_X4_meet l D cI cJ cO g0 (pr 2) pa tb fw ch b0 b1 Z t0 w0 p2 2) (ci := 4) (q0 := 0) rfl rfl (cwV 2 hts gX4_goOn_X4_meet rfl rfl rfl (by decide +kernel) ⟨Nat.le_of_ble_eq_true rfl, Nat.le_of_ble_eq_true rfl⟩) hK hN hP hD hS hA [0, 2, 3, 5] rfl rfl rfl (ws' := [(g0, oX4 pa tb fw ch Z_1), (pa, .inl (cO, 6, .inr (.inr (.inr (.inr (fun k => some (pr k))))))), (tb, .inl (cJ, 2048, .inr (.inl t_2))), (fw, .inl (cI, 5, .inl w_3)), (ch, .inl (cI, 4, .inl c0)), ((pr 2), oX2 b0 b1 p2), ((pr 3), oX2 b0 b1 p3), ((pr 4), oX2 b0 b1 p4), ((pr 5), oX2 b0 b1 p5), (b0, oX5 S), (b1, oX0 F)]) (by rw [eZ_1, et_2, ew_3]; rfl) rfl hl.1 rfl (Nat.le_of_ble_eq_true rfl) dX4_goOn_25 ⟨Nat.le_refl _, Nat.le_refl _⟩ (fun H locs hP hD hS => ?_)
  refine lv_iload_n hx hb dX4_goOn_28 rfl (lv_at hl 2 rfl) ?_
  refine lv_iload_n hx hb dX4_goOn_29 rfl (lv_at hl 3 rfl) ?_
  refine lv_icmp_ge (tgt := 38) hx hb dX4_goOn_30 (by decide) (fun c_4 => ?_) (fun c_4 => ?_)
  · skip
    have hsp : sp_X4_goOn2 Z t0 w0 c0 p2 p3 p4 p5 S F n = (Z_1, t_2, w_3, p3, p4, p5) := sq_X4_goOn2_1 Z t0 w0 c0 p2 p3 p4 p5 S F n Z_1 t_2 w_3 eZ_1 et_2 ew_3 c_4
    exact hret _ _ _ _ (by rw [hsp]; exact hP) hS dX4_goOn_38
  · skip
    refine lv_iload_n hx hb dX4_goOn_33 rfl (lv_at hl 2 rfl) ?_
    refine lv_iconst (v := 5) hx hb dX4_goOn_34 (by decide +kernel) ?_
    refine lv_icmp_lt (tgt := 39) hx hb dX4_goOn_35 (by decide) (fun _ => ?_) (fun q => absurd q (by decide +kernel))
    refine lv_aload_n hx hb dX4_goOn_39 rfl (lv_at hl 1 rfl) ?_
    refine k_get hx hb hts hi4 hown hK hP 0 rfl rfl 0 (by decide) hf11 (.ref pa) rfl dX4_goOn_40 ?_
    refine lv_iload_n hx hb dX4_goOn_43 rfl (lv_at hl 2 rfl) ?_
    refine lv_iconst (v := 1) hx hb dX4_goOn_44 (by decide +kernel) ?_
    refine lv_iadd hx hb dX4_goOn_45 ?_
    refine lv_topi (fun z_5 ez_5 => ?_)
    obtain rfl : z_5 = 3 := ez_5.trans (by decide +kernel)
    refine k_aald hx hb hK hP 1 2 rfl rfl 3 (by decide +kernel) (vp_in_iff.mpr (by decide +kernel)) dX4_goOn_46 ?_
    refine lv_astore (lv' := [(4, .ref (pr 3)), (3, .ref (pr 2)), (0, .ref g0), (1, .int 2), (2, .int n)]) hx hb dX4_goOn_47 hl (by decide) rfl (fun ls hl => ?_)
    refine lv_aload hx hb dX4_goOn_49 (lv_at hl 0 rfl) ?_
    refine lv_ifnonnull (tgt := 55) hx hb dX4_goOn_51 (by decide) ?_
    refine lv_iconst (v := 0) hx hb dX4_goOn_55 (by decide +kernel) ?_
    refine lv_istore (lv' := [(5, .int 0), (4, .ref (pr 3)), (3, .ref (pr 2)), (0, .ref g0), (1, .int 2), (2, .int n)]) hx hb dX4_goOn_56 hl (by decide) rfl (fun ls hl => ?_)
    obtain ⟨fx_7, hfx_7⟩ : ∃ f : Nat → (Nat → Int32) × (Nat → Int64) × (Nat → Int32) × (Nat → Int32) × (Nat → Int32) × (Nat → Int32) → (Nat → Int32) × (Nat → Int64) × (Nat → Int32) × (Nat → Int32) × (Nat → Int32) × (Nat → Int32), f = (bd_X4_goOn2_58 c0 p2 S F n) := ⟨_, rfl⟩
    have hN_x_7 : (Z 4).toNatClampNeg < 2 ^ 31 := clamp_lt _
    have Lx_7 : ∀ (nn i_6 : Nat) (x_7 : (Nat → Int32) × (Nat → Int64) × (Nat → Int32) × (Nat → Int32) × (Nat → Int32) × (Nat → Int32)), (Z 4).toNatClampNeg + 1 ≤ i_6 + nn → i_6 ≤ (Z 4).toNatClampNeg → x_7 = lp fx_7 i_6 (Z_1, t_2, w_3, p3, p4, p5) → (x_7.1) 4 = Z 4 → ∀ (H : Heap) (locs : List Loc), va_P D vwCl [(g0, oX4 pa tb fw ch (x_7.1)), (pa, .inl (cO, 6, .inr (.inr (.inr (.inr (fun k => some (pr k))))))), (tb, .inl (cJ, 2048, .inr (.inl (x_7.2.1)))), (fw, .inl (cI, 5, .inl (x_7.2.2.1))), (ch, .inl (cI, 4, .inl c0)), ((pr 2), oX2 b0 b1 p2), ((pr 3), oX2 b0 b1 (x_7.2.2.2.1)), ((pr 4), oX2 b0 b1 (x_7.2.2.2.2.1)), ((pr 5), oX2 b0 b1 (x_7.2.2.2.2.2)), (b0, oX5 S), (b1, oX0 F)] H → va_D A [(g0, oX4 pa tb fw ch (x_7.1)), (pa, .inl (cO, 6, .inr (.inr (.inr (.inr (fun k => some (pr k))))))), (tb, .inl (cJ, 2048, .inr (.inl (x_7.2.1)))), (fw, .inl (cI, 5, .inl (x_7.2.2.1))), (ch, .inl (cI, 4, .inl c0)), ((pr 2), oX2 b0 b1 p2), ((pr 3), oX2 b0 b1 (x_7.2.2.2.1)), ((pr 4), oX2 b0 b1 (x_7.2.2.2.2.1)), ((pr 5), oX2 b0 b1 (x_7.2.2.2.2.2)), (b0, oX5 S), (b1, oX0 F)] → va_S A s.heap H locs → ∀ ls : Array Slot, lv_has ls 6 [(0, .ref g0), (1, .int 2), (2, .int n), (3, .ref (pr 2)), (4, .ref (pr 3)), (5, .int (nI i_6))] → W p l e (RM 7) s m ([.ref g0, .int 2, .int n] : List Value).toArray below meth c H locs 0 0 Q (F0 m 58 ls []) := by
      intro nn_x_7
      induction nn_x_7 with
      | zero => intro i_6 x_7 h1 h2; exact absurd h1 (by omega)
      | succ nn_x_7 ih_x_7 =>
        intro i_6 x_7 hn_x_7 hi_i_6 ex_x_7 hv_x_7 H locs hP hD hS ls hl
        have hB_x_7 : (((x_7.1) 4) : Int32) = nI ((Z 4).toNatClampNeg) := hv_x_7.trans (nI_self hc0)
        refine lv_iload hx hb dX4_goOn_58 (lv_at hl 5 rfl) ?_
        refine lv_aload_n hx hb dX4_goOn_60 rfl (lv_at hl 0 rfl) ?_
        refine k_get hx hb hts hi4 hown hK hP 0 rfl rfl 4 (by decide) hf28 (.int ((x_7.1) 4)) rfl dX4_goOn_61 ?_
        refine lv_icmp_ge (tgt := 109) hx hb dX4_goOn_64 (by decide) (fun c_8 => ?_) (fun c_8 => ?_)
        · skip
          have hq_x_7 : i_6 = (Z 4).toNatClampNeg := k_eq hB_x_7 c_8 hi_i_6 hN_x_7
          have ex_7 : x_7 = lp (bd_X4_goOn2_58 c0 p2 S F n) ((Z 4).toNatClampNeg) (Z_1, t_2, w_3, p3, p4, p5) := by rw [ex_x_7, hfx_7, hq_x_7]
          have hsp : sp_X4_goOn2 Z t0 w0 c0 p2 p3 p4 p5 S F n = ((x_7.1), (x_7.2.1), (x_7.2.2.1), (x_7.2.2.2.1), (x_7.2.2.2.2.1), (x_7.2.2.2.2.2)) := sq_X4_goOn2_2 Z t0 w0 c0 p2 p3 p4 p5 S F n Z_1 t_2 w_3 x_7 eZ_1 et_2 ew_3 ex_7 c_4
          exact hret _ _ _ _ (by rw [hsp]; exact hP) hS dX4_goOn_109
        · skip
          have hlt_i_6 : i_6 < (Z 4).toNatClampNeg := k_lt hB_x_7 c_8 hi_i_6 hN_x_7
          refine lv_iload hx hb dX4_goOn_67 (lv_at hl 5 rfl) ?_
          refine lv_aload_n hx hb dX4_goOn_69 rfl (lv_at hl 0 rfl) ?_
          refine k_get hx hb hts hi4 hown hK hP 0 rfl rfl 3 (by decide) hf25 (.ref ch) rfl dX4_goOn_70 ?_
          refine va_alen hx hb hK hP 4 0 rfl rfl (v := 4) (show Int32.ofNat 4 = 4 by decide +kernel) dX4_goOn_73 ?_
          refine lv_icmp_ge (tgt := 109) hx hb dX4_goOn_74 (by decide) (fun q => absurd q (show ¬ (nI 4 ≤ (nI i_6)) from nI_ge (by omega) (by decide))) (fun _ => ?_)
          refine lv_aload hx hb dX4_goOn_77 (lv_at hl 4 rfl) ?_
          refine lv_aload_n hx hb dX4_goOn_79 rfl (lv_at hl 3 rfl) ?_
          obtain ⟨P_9, eP_9⟩ : ∃ q : Nat → Int32, q = (sp_X2_copyFrom (x_7.2.2.2.1) p2) := ⟨_, rfl⟩
          refine k_Vv ⟨hx, hb, hml, hown, hts⟩ (c_X2_copyFrom l D cI cJ cO (pr 3) (pr 2) b0 b1 (x_7.2.2.2.1) p2) (ci := 2) (q0 := 6) rfl rfl (cwV 1 hts gX4_goOn_X2_copyFrom rfl rfl rfl (by decide +kernel) ⟨Nat.le_of_ble_eq_true rfl, Nat.le_of_ble_eq_true rfl⟩) hK hN hP hD hS hA [6, 5] rfl rfl rfl (ws' := [(g0, oX4 pa tb fw ch (x_7.1)), (pa, .inl (cO, 6, .inr (.inr (.inr (.inr (fun k => some (pr k))))))), (tb, .inl (cJ, 2048, .inr (.inl (x_7.2.1)))), (fw, .inl (cI, 5, .inl (x_7.2.2.1))), (ch, .inl (cI, 4, .inl c0)), ((pr 2), oX2 b0 b1 p2), ((pr 3), oX2 b0 b1 P_9), ((pr 4), oX2 b0 b1 (x_7.2.2.2.2.1)), ((pr 5), oX2 b0 b1 (x_7.2.2.2.2.2)), (b0, oX5 S), (b1, oX0 F)]) (by rw [eP_9]; rfl) rfl hl.1 rfl (Nat.le_of_ble_eq_true rfl) dX4_goOn_80 ⟨Nat.le_refl _, Nat.le_refl _⟩ (fun H locs hP hD hS => ?_)
          refine lv_aload hx hb dX4_goOn_83 (lv_at hl 4 rfl) ?_
          refine lv_aload_n hx hb dX4_goOn_85 rfl (lv_at hl 0 rfl) ?_
          refine k_get hx hb hts hi4 hown hK hP 0 rfl rfl 3 (by decide) hf25 (.ref ch) rfl dX4_goOn_86 ?_
          refine lv_iload hx hb dX4_goOn_89 (lv_at hl 5 rfl) ?_
          refine k_iald hx hb hK hP 4 0 rfl rfl i_6 (nI_clamp (by omega)) (vp_in_nI (by omega) (by omega)) dX4_goOn_91 ?_
          obtain ⟨P_10, eP_10⟩ : ∃ q : Nat → Int32, q = (sp_X2_advance P_9 S F (c0 i_6)) := ⟨_, rfl⟩
          refine k_Vv ⟨hx, hb, hml, hown, hts⟩ (c_X2_advance l D cI cJ cO (pr 3) b0 b1 P_9 S F (c0 i_6)) (ci := 2) (q0 := 6) rfl rfl (cwV 1 hts gX4_goOn_X2_advance rfl rfl rfl (by decide +kernel) ⟨Nat.le_of_ble_eq_true rfl, Nat.le_of_ble_eq_true rfl⟩) hK hN hP hD hS hA [6, 9, 10] rfl rfl rfl (ws' := [(g0, oX4 pa tb fw ch (x_7.1)), (pa, .inl (cO, 6, .inr (.inr (.inr (.inr (fun k => some (pr k))))))), (tb, .inl (cJ, 2048, .inr (.inl (x_7.2.1)))), (fw, .inl (cI, 5, .inl (x_7.2.2.1))), (ch, .inl (cI, 4, .inl c0)), ((pr 2), oX2 b0 b1 p2), ((pr 3), oX2 b0 b1 P_10), ((pr 4), oX2 b0 b1 (x_7.2.2.2.2.1)), ((pr 5), oX2 b0 b1 (x_7.2.2.2.2.2)), (b0, oX5 S), (b1, oX0 F)]) (by rw [eP_10]; rfl) rfl hl.1 rfl (Nat.le_of_ble_eq_true rfl) dX4_goOn_92 ⟨Nat.le_refl _, Nat.le_refl _⟩ (fun H locs hP hD hS => ?_)
          refine lv_aload_n hx hb dX4_goOn_95 rfl (lv_at hl 0 rfl) ?_
          refine lv_iload_n hx hb dX4_goOn_96 rfl (lv_at hl 1 rfl) ?_
          refine lv_iconst (v := 1) hx hb dX4_goOn_97 (by decide +kernel) ?_
          refine lv_iadd hx hb dX4_goOn_98 ?_
          refine lv_topi (fun z_11 ez_11 => ?_)
          obtain rfl : z_11 = 3 := ez_11.trans (by decide +kernel)
          refine lv_iload_n hx hb dX4_goOn_99 rfl (lv_at hl 2 rfl) ?_
          obtain ⟨Z_12, eZ_12⟩ : ∃ q : Nat → Int32, q = ((sp_X4_goOn3 (x_7.1) (x_7.2.1) (x_7.2.2.1) c0 P_10 (x_7.2.2.2.2.1) (x_7.2.2.2.2.2) S F n).1) := ⟨_, rfl⟩
          obtain ⟨t_13, et_13⟩ : ∃ q : Nat → Int64, q = ((sp_X4_goOn3 (x_7.1) (x_7.2.1) (x_7.2.2.1) c0 P_10 (x_7.2.2.2.2.1) (x_7.2.2.2.2.2) S F n).2.1) := ⟨_, rfl⟩
          obtain ⟨w_14, ew_14⟩ : ∃ q : Nat → Int32, q = ((sp_X4_goOn3 (x_7.1) (x_7.2.1) (x_7.2.2.1) c0 P_10 (x_7.2.2.2.2.1) (x_7.2.2.2.2.2) S F n).2.2.1) := ⟨_, rfl⟩
          obtain ⟨p_15, ep_15⟩ : ∃ q : Nat → Int32, q = ((sp_X4_goOn3 (x_7.1) (x_7.2.1) (x_7.2.2.1) c0 P_10 (x_7.2.2.2.2.1) (x_7.2.2.2.2.2) S F n).2.2.2.1) := ⟨_, rfl⟩
          obtain ⟨p_16, ep_16⟩ : ∃ q : Nat → Int32, q = ((sp_X4_goOn3 (x_7.1) (x_7.2.1) (x_7.2.2.1) c0 P_10 (x_7.2.2.2.2.1) (x_7.2.2.2.2.2) S F n).2.2.2.2) := ⟨_, rfl⟩
          refine k_Sv ⟨hx, hb, hml, hown, hts⟩ (c_X4_goOn3 l D cI cJ cO g0 pa tb fw ch pr b0 b1 (x_7.1) (x_7.2.1) (x_7.2.2.1) c0 P_10 (x_7.2.2.2.2.1) (x_7.2.2.2.2.2) S F n (by rw [hv_x_7]; exact hc0) (by rw [hv_x_7]; exact hc4)) (va_cwS 3 hts gX4_goOn_X4_goOn rfl rfl rfl (by decide +kernel) ⟨Nat.le_of_ble_eq_true rfl, Nat.le_of_ble_eq_true rfl⟩) hK hN hP hD hS hA [0, 1, 2, 3, 4, 6, 7, 8, 9, 10] rfl rfl rfl (ws' := [(g0, oX4 pa tb fw ch Z_12), (pa, .inl (cO, 6, .inr (.inr (.inr (.inr (fun k => some (pr k))))))), (tb, .inl (cJ, 2048, .inr (.inl t_13))), (fw, .inl (cI, 5, .inl w_14)), (ch, .inl (cI, 4, .inl c0)), ((pr 2), oX2 b0 b1 p2), ((pr 3), oX2 b0 b1 P_10), ((pr 4), oX2 b0 b1 p_15), ((pr 5), oX2 b0 b1 p_16), (b0, oX5 S), (b1, oX0 F)]) (by rw [eZ_12, et_13, ew_14, ep_15, ep_16]; rfl) rfl hl.1 rfl (Nat.le_of_ble_eq_true rfl) dX4_goOn_100 ⟨Nat.le_refl _, Nat.le_refl _⟩ (fun H locs hP hD hS => ?_)
          refine lv_iinc (v := (nI (i_6 + 1))) (lv' := [(5, .int (nI (i_6 + 1))), (0, .ref g0), (1, .int 2), (2, .int n), (3, .ref (pr 2)), (4, .ref (pr 3))]) hx hb dX4_goOn_103 hl (k := 5) rfl (nI_1 i_6) (by decide) rfl (fun ls hl => ?_)
          refine lv_goto (tgt := 58) hx hb dX4_goOn_106 (by decide) ?_
          exact ih_x_7 (i_6 + 1) (Z_12, t_13, w_14, P_10, p_15, p_16) (by omega) (by omega) (by subst ep_16; subst ep_15; subst ew_14; subst et_13; subst eZ_12; subst eP_10; subst eP_9; rw [show lp fx_7 (i_6 + 1) (Z_1, t_2, w_3, p3, p4, p5) = fx_7 i_6 (lp fx_7 i_6 (Z_1, t_2, w_3, p3, p4, p5)) from rfl, ← ex_x_7, hfx_7]; try (first | (rfl; done) | rfl)) (by (try simp only [ep_16, ep_15, ew_14, et_13, eZ_12, eP_10, eP_9, ew_3, et_2, eZ_1, meet_4, goOn3_4, upd]); first | done | rfl | exact hv_x_7 | (simp only [hv_x_7])) _ _ hP hD hS _ (lv_sub hl [1, 2, 3, 4, 5, 0] rfl)
    exact Lx_7 ((Z 4).toNatClampNeg + 1) 0 (Z_1, t_2, w_3, p3, p4, p5) (by omega) (Nat.zero_le _) rfl (by (try simp only [ew_3, et_2, eZ_1, meet_4, goOn3_4, upd]); first | done | rfl) _ _ hP hD hS _ (lv_sub hl [3, 4, 5, 2, 1, 0] rfl)

theorem goOn2_4 (Z : Nat → Int32) (t0 : Nat → Int64) (w0 : Nat → Int32) (c0 : Nat → Int32) (p2 : Nat → Int32) (p3 : Nat → Int32) (p4 : Nat → Int32) (p5 : Nat → Int32) (S : Nat → Int32) (F : Nat → Int32) (n : Int32) : (sp_X4_goOn2 Z t0 w0 c0 p2 p3 p4 p5 S F n).1 4 = Z 4 := by
  simp only [sp_X4_goOn2]
  split
  · exact meet_4 Z t0 w0 p2 2
  · refine lp_inv (I := fun x : (Nat → Int32) × (Nat → Int64) × (Nat → Int32) × (Nat → Int32) × (Nat → Int32) × (Nat → Int32) => x.1 4 = Z 4) (fun i x hx => ?_) _ _ (meet_4 Z t0 w0 p2 2)
    simp only [bd_X4_goOn2_58]
    exact (goOn3_4 _ _ _ _ _ _ _ _ _ _).trans hx

def bd_X4_goOn1_58 (c0 : Nat → Int32) (p1 : Nat → Int32) (S : Nat → Int32) (F : Nat → Int32) (n : Int32) (i_6 : Nat) (x_7 : (Nat → Int32) × (Nat → Int64) × (Nat → Int32) × (Nat → Int32) × (Nat → Int32) × (Nat → Int32) × (Nat → Int32)) : (Nat → Int32) × (Nat → Int64) × (Nat → Int32) × (Nat → Int32) × (Nat → Int32) × (Nat → Int32) × (Nat → Int32) :=
  (let P_8 : Nat → Int32 := (sp_X2_copyFrom (x_7.2.2.2.1) p1); (let P_9 : Nat → Int32 := (sp_X2_advance P_8 S F (c0 i_6)); (let Z_11 : Nat → Int32 := ((sp_X4_goOn2 (x_7.1) (x_7.2.1) (x_7.2.2.1) c0 P_9 (x_7.2.2.2.2.1) (x_7.2.2.2.2.2.1) (x_7.2.2.2.2.2.2) S F n).1); (let t_12 : Nat → Int64 := ((sp_X4_goOn2 (x_7.1) (x_7.2.1) (x_7.2.2.1) c0 P_9 (x_7.2.2.2.2.1) (x_7.2.2.2.2.2.1) (x_7.2.2.2.2.2.2) S F n).2.1); (let w_13 : Nat → Int32 := ((sp_X4_goOn2 (x_7.1) (x_7.2.1) (x_7.2.2.1) c0 P_9 (x_7.2.2.2.2.1) (x_7.2.2.2.2.2.1) (x_7.2.2.2.2.2.2) S F n).2.2.1); (let p_14 : Nat → Int32 := ((sp_X4_goOn2 (x_7.1) (x_7.2.1) (x_7.2.2.1) c0 P_9 (x_7.2.2.2.2.1) (x_7.2.2.2.2.2.1) (x_7.2.2.2.2.2.2) S F n).2.2.2.1); (let p_15 : Nat → Int32 := ((sp_X4_goOn2 (x_7.1) (x_7.2.1) (x_7.2.2.1) c0 P_9 (x_7.2.2.2.2.1) (x_7.2.2.2.2.2.1) (x_7.2.2.2.2.2.2) S F n).2.2.2.2.1); (let p_16 : Nat → Int32 := ((sp_X4_goOn2 (x_7.1) (x_7.2.1) (x_7.2.2.1) c0 P_9 (x_7.2.2.2.2.1) (x_7.2.2.2.2.2.1) (x_7.2.2.2.2.2.2) S F n).2.2.2.2.2); (Z_11, t_12, w_13, P_9, p_14, p_15, p_16)))))))))
def sp_X4_goOn1 (Z : Nat → Int32) (t0 : Nat → Int64) (w0 : Nat → Int32) (c0 : Nat → Int32) (p1 : Nat → Int32) (p2 : Nat → Int32) (p3 : Nat → Int32) (p4 : Nat → Int32) (p5 : Nat → Int32) (S : Nat → Int32) (F : Nat → Int32) (n : Int32) : (Nat → Int32) × (Nat → Int64) × (Nat → Int32) × (Nat → Int32) × (Nat → Int32) × (Nat → Int32) × (Nat → Int32) :=
  let Z_1 : Nat → Int32 := ((sp_X4_meet Z t0 w0 p1 1).1)
  let t_2 : Nat → Int64 := ((sp_X4_meet Z t0 w0 p1 1).2.1)
  let w_3 : Nat → Int32 := ((sp_X4_meet Z t0 w0 p1 1).2.2)
  (if n ≤ 1 then
    (Z_1, t_2, w_3, p2, p3, p4, p5)
  else
    let x_7 : (Nat → Int32) × (Nat → Int64) × (Nat → Int32) × (Nat → Int32) × (Nat → Int32) × (Nat → Int32) × (Nat → Int32) := lp (bd_X4_goOn1_58 c0 p1 S F n) ((Z 4).toNatClampNeg) (Z_1, t_2, w_3, p2, p3, p4, p5)
    ((x_7.1), (x_7.2.1), (x_7.2.2.1), (x_7.2.2.2.1), (x_7.2.2.2.2.1), (x_7.2.2.2.2.2.1), (x_7.2.2.2.2.2.2)))
set_option maxRecDepth 100000 in
theorem sq_X4_goOn1_1 (Z : Nat → Int32) (t0 : Nat → Int64) (w0 : Nat → Int32) (c0 : Nat → Int32) (p1 : Nat → Int32) (p2 : Nat → Int32) (p3 : Nat → Int32) (p4 : Nat → Int32) (p5 : Nat → Int32) (S : Nat → Int32) (F : Nat → Int32) (n : Int32) (Z_1 : Nat → Int32) (t_2 : Nat → Int64) (w_3 : Nat → Int32) (eZ_1 : Z_1 = ((sp_X4_meet Z t0 w0 p1 1).1)) (et_2 : t_2 = ((sp_X4_meet Z t0 w0 p1 1).2.1)) (ew_3 : w_3 = ((sp_X4_meet Z t0 w0 p1 1).2.2)) (c_4 : n ≤ 1) : sp_X4_goOn1 Z t0 w0 c0 p1 p2 p3 p4 p5 S F n = (Z_1, t_2, w_3, p2, p3, p4, p5) := by subst ew_3; subst et_2; subst eZ_1; simp only [sp_X4_goOn1, if_pos c_4]
set_option maxRecDepth 100000 in
theorem sq_X4_goOn1_2 (Z : Nat → Int32) (t0 : Nat → Int64) (w0 : Nat → Int32) (c0 : Nat → Int32) (p1 : Nat → Int32) (p2 : Nat → Int32) (p3 : Nat → Int32) (p4 : Nat → Int32) (p5 : Nat → Int32) (S : Nat → Int32) (F : Nat → Int32) (n : Int32) (Z_1 : Nat → Int32) (t_2 : Nat → Int64) (w_3 : Nat → Int32) (x_7 : (Nat → Int32) × (Nat → Int64) × (Nat → Int32) × (Nat → Int32) × (Nat → Int32) × (Nat → Int32) × (Nat → Int32)) (eZ_1 : Z_1 = ((sp_X4_meet Z t0 w0 p1 1).1)) (et_2 : t_2 = ((sp_X4_meet Z t0 w0 p1 1).2.1)) (ew_3 : w_3 = ((sp_X4_meet Z t0 w0 p1 1).2.2)) (ex_7 : x_7 = lp (bd_X4_goOn1_58 c0 p1 S F n) ((Z 4).toNatClampNeg) (Z_1, t_2, w_3, p2, p3, p4, p5)) (c_4 : ¬ (n ≤ 1)) : sp_X4_goOn1 Z t0 w0 c0 p1 p2 p3 p4 p5 S F n = ((x_7.1), (x_7.2.1), (x_7.2.2.1), (x_7.2.2.2.1), (x_7.2.2.2.2.1), (x_7.2.2.2.2.2.1), (x_7.2.2.2.2.2.2)) := by subst ex_7; subst ew_3; subst et_2; subst eZ_1; simp only [sp_X4_goOn1, if_neg c_4]
set_option maxHeartbeats 4000000 in
set_option maxRecDepth 100000 in
theorem c_X4_goOn1 (l : Launch) (D : va_G) (cI cJ cO : ClassId) (g0 : Nat) (pa : Nat) (tb : Nat) (fw : Nat) (ch : Nat) (pr : Nat → Nat) (b0 : Nat) (b1 : Nat) (Z : Nat → Int32) (t0 : Nat → Int64) (w0 : Nat → Int32) (c0 : Nat → Int32) (p1 : Nat → Int32) (p2 : Nat → Int32) (p3 : Nat → Int32) (p4 : Nat → Int32) (p5 : Nat → Int32) (S : Nat → Int32) (F : Nat → Int32) (n : Int32) (hc0 : ¬ Z 4 < 0) (hc4 : (Z 4).toNatClampNeg ≤ 4) : MV l D (TY cI cJ cO) yX4_goOn wsX4_goOn (RM 8) [.ref g0, .int 1, .int n] [(g0, oX4 pa tb fw ch Z), (pa, .inl (cO, 6, .inr (.inr (.inr (.inr (fun k => some (pr k))))))), (tb, .inl (cJ, 2048, .inr (.inl t0))), (fw, .inl (cI, 5, .inl w0)), (ch, .inl (cI, 4, .inl c0)), ((pr 1), oX2 b0 b1 p1), ((pr 2), oX2 b0 b1 p2), ((pr 3), oX2 b0 b1 p3), ((pr 4), oX2 b0 b1 p4), ((pr 5), oX2 b0 b1 p5), (b0, oX5 S), (b1, oX0 F)] [(g0, oX4 pa tb fw ch ((sp_X4_goOn1 Z t0 w0 c0 p1 p2 p3 p4 p5 S F n).1)), (pa, .inl (cO, 6, .inr (.inr (.inr (.inr (fun k => some (pr k))))))), (tb, .inl (cJ, 2048, .inr (.inl ((sp_X4_goOn1 Z t0 w0 c0 p1 p2 p3 p4 p5 S F n).2.1)))), (fw, .inl (cI, 5, .inl ((sp_X4_goOn1 Z t0 w0 c0 p1 p2 p3 p4 p5 S F n).2.2.1))), (ch, .inl (cI, 4, .inl c0)), ((pr 1), oX2 b0 b1 p1), ((pr 2), oX2 b0 b1 ((sp_X4_goOn1 Z t0 w0 c0 p1 p2 p3 p4 p5 S F n).2.2.2.1)), ((pr 3), oX2 b0 b1 ((sp_X4_goOn1 Z t0 w0 c0 p1 p2 p3 p4 p5 S F n).2.2.2.2.1)), ((pr 4), oX2 b0 b1 ((sp_X4_goOn1 Z t0 w0 c0 p1 p2 p3 p4 p5 S F n).2.2.2.2.2.1)), ((pr 5), oX2 b0 b1 ((sp_X4_goOn1 Z t0 w0 c0 p1 p2 p3 p4 p5 S F n).2.2.2.2.2.2)), (b0, oX5 S), (b1, oX0 F)] := by
  refine k_entV (cc := cX4_goOn) (maxL := 6) (lv := [(0, .ref g0), (1, .int 1), (2, .int n)]) (by decide +kernel) rfl (Nat.le_of_ble_eq_true rfl) rfl ?_
  intro p e s m below meth c A Q ls hx hb hml hts hown hA hS hP hD hK hN hl hret
  have hown : s.vm.findClass RX4 = some m.cls := hown
  have hi4 : ∀ w ∈ wsX40, w ∈ wsX4_goOn := fun w h => List.mem_cons_of_mem _ (List.mem_append_left _ (List.mem_append_left _ (List.mem_append_left _ (List.mem_append_right _ h))))
  have hf11 := hts (.fieldLink RX4 11 "PressGuard$Search" "path" "[LPressGuard$Press;") (by decide +kernel)
  have hf25 := hts (.fieldLink RX4 25 "PressGuard$Search" "choices" "[I") (by decide +kernel)
  have hf28 := hts (.fieldLink RX4 28 "PressGuard$Search" "choiceCount" "I") (by decide +kernel)
  refine lv_iload_n hx hb dX4_goOn_0 rfl (lv_at hl 1 rfl) ?_
  refine lv_iconst (v := 0) hx hb dX4_goOn_1 (by decide +kernel) ?_
  refine lv_iconst (v := 5) hx hb dX4_goOn_2 (by decide +kernel) ?_
  refine k_SNi ⟨hx, hb, hml, hown, hts⟩ (c_X8_within l D cI cJ cO 1 0 5) (va_cnB 3 hts gX4_goOn_X8_within_n65 rfl rfl rfl (hN.1 1 _ rfl) (hts (.initialized RX8) (by decide +kernel)) (by decide +kernel) ⟨Nat.le_of_ble_eq_true rfl, Nat.le_of_ble_eq_true rfl⟩) (hts (.static yX8_within) (by decide +kernel)) hK hN hP hD hS hA [] rfl rfl rfl (ws' := [(g0, oX4 pa tb fw ch Z), (pa, .inl (cO, 6, .inr (.inr (.inr (.inr (fun k => some (pr k))))))), (tb, .inl (cJ, 2048, .inr (.inl t0))), (fw, .inl (cI, 5, .inl w0)), (ch, .inl (cI, 4, .inl c0)), ((pr 1), oX2 b0 b1 p1), ((pr 2), oX2 b0 b1 p2), ((pr 3), oX2 b0 b1 p3), ((pr 4), oX2 b0 b1 p4), ((pr 5), oX2 b0 b1 p5), (b0, oX5 S), (b1, oX0 F)]) rfl rfl hl.1 rfl (Nat.le_of_ble_eq_true rfl) dX4_goOn_3 ⟨Nat.le_refl _, Nat.le_refl _⟩ (fun H locs hP hD hS => ?_)
  refine lv_if_ne (tgt := 10) hx hb dX4_goOn_6 (by decide) (fun _ => ?_) (fun q => absurd q (by decide +kernel))
  refine lv_aload_n hx hb dX4_goOn_10 rfl (lv_at hl 0 rfl) ?_
  refine k_get hx hb hts hi4 hown hK hP 0 rfl rfl 0 (by decide) hf11 (.ref pa) rfl dX4_goOn_11 ?_
  refine lv_iload_n hx hb dX4_goOn_14 rfl (lv_at hl 1 rfl) ?_
  refine k_aald hx hb hK hP 1 2 rfl rfl 1 (by decide +kernel) (vp_in_iff.mpr (by decide +kernel)) dX4_goOn_15 ?_
  refine lv_astore_n (lv' := [(3, .ref (pr 1)), (0, .ref g0), (1, .int 1), (2, .int n)]) hx hb dX4_goOn_16 rfl hl (by decide) rfl (fun ls hl => ?_)
  refine lv_aload_n hx hb dX4_goOn_17 rfl (lv_at hl 0 rfl) ?_
  refine lv_ifnonnull (tgt := 22) hx hb dX4_goOn_18 (by decide) ?_
  refine lv_aload_n hx hb dX4_goOn_22 rfl (lv_at hl 1 rfl) ?_
  refine lv_aload_n hx hb dX4_goOn_23 rfl (lv_at hl 0 rfl) ?_
  refine lv_iload_n hx hb dX4_goOn_24 rfl (lv_at hl 2 rfl) ?_
  obtain ⟨Z_1, eZ_1⟩ : ∃ q : Nat → Int32, q = ((sp_X4_meet Z t0 w0 p1 1).1) := ⟨_, rfl⟩
  obtain ⟨t_2, et_2⟩ : ∃ q : Nat → Int64, q = ((sp_X4_meet Z t0 w0 p1 1).2.1) := ⟨_, rfl⟩
  obtain ⟨w_3, ew_3⟩ : ∃ q : Nat → Int32, q = ((sp_X4_meet Z t0 w0 p1 1).2.2) := ⟨_, rfl⟩
  refine k_Vv ⟨hx, hb, hml, hown, hts⟩ (c_X4_meet l D cI cJ cO g0 (pr 1) pa tb fw ch b0 b1 Z t0 w0 p1 1) (ci := 4) (q0 := 0) rfl rfl (cwV 2 hts gX4_goOn_X4_meet rfl rfl rfl (by decide +kernel) ⟨Nat.le_of_ble_eq_true rfl, Nat.le_of_ble_eq_true rfl⟩) hK hN hP hD hS hA [0, 2, 3, 5] rfl rfl rfl (ws' := [(g0, oX4 pa tb fw ch Z_1), (pa, .inl (cO, 6, .inr (.inr (.inr (.inr (fun k => some (pr k))))))), (tb, .inl (cJ, 2048, .inr (.inl t_2))), (fw, .inl (cI, 5, .inl w_3)), (ch, .inl (cI, 4, .inl c0)), ((pr 1), oX2 b0 b1 p1), ((pr 2), oX2 b0 b1 p2), ((pr 3), oX2 b0 b1 p3), ((pr 4), oX2 b0 b1 p4), ((pr 5), oX2 b0 b1 p5), (b0, oX5 S), (b1, oX0 F)]) (by rw [eZ_1, et_2, ew_3]; rfl) rfl hl.1 rfl (Nat.le_of_ble_eq_true rfl) dX4_goOn_25 ⟨Nat.le_refl _, Nat.le_refl _⟩ (fun H locs hP hD hS => ?_)
  refine lv_iload_n hx hb dX4_goOn_28 rfl (lv_at hl 2 rfl) ?_
  refine lv_iload_n hx hb dX4_goOn_29 rfl (lv_at hl 3 rfl) ?_
  refine lv_icmp_ge (tgt := 38) hx hb dX4_goOn_30 (by decide) (fun c_4 => ?_) (fun c_4 => ?_)
  · skip
    have hsp : sp_X4_goOn1 Z t0 w0 c0 p1 p2 p3 p4 p5 S F n = (Z_1, t_2, w_3, p2, p3, p4, p5) := sq_X4_goOn1_1 Z t0 w0 c0 p1 p2 p3 p4 p5 S F n Z_1 t_2 w_3 eZ_1 et_2 ew_3 c_4
    exact hret _ _ _ _ (by rw [hsp]; exact hP) hS dX4_goOn_38
  · skip
    refine lv_iload_n hx hb dX4_goOn_33 rfl (lv_at hl 2 rfl) ?_
    refine lv_iconst (v := 5) hx hb dX4_goOn_34 (by decide +kernel) ?_
    refine lv_icmp_lt (tgt := 39) hx hb dX4_goOn_35 (by decide) (fun _ => ?_) (fun q => absurd q (by decide +kernel))
    refine lv_aload_n hx hb dX4_goOn_39 rfl (lv_at hl 1 rfl) ?_
    refine k_get hx hb hts hi4 hown hK hP 0 rfl rfl 0 (by decide) hf11 (.ref pa) rfl dX4_goOn_40 ?_
    refine lv_iload_n hx hb dX4_goOn_43 rfl (lv_at hl 2 rfl) ?_
    refine lv_iconst (v := 1) hx hb dX4_goOn_44 (by decide +kernel) ?_
    refine lv_iadd hx hb dX4_goOn_45 ?_
    refine lv_topi (fun z_5 ez_5 => ?_)
    obtain rfl : z_5 = 2 := ez_5.trans (by decide +kernel)
    refine k_aald hx hb hK hP 1 2 rfl rfl 2 (by decide +kernel) (vp_in_iff.mpr (by decide +kernel)) dX4_goOn_46 ?_
    refine lv_astore (lv' := [(4, .ref (pr 2)), (3, .ref (pr 1)), (0, .ref g0), (1, .int 1), (2, .int n)]) hx hb dX4_goOn_47 hl (by decide) rfl (fun ls hl => ?_)
    refine lv_aload hx hb dX4_goOn_49 (lv_at hl 0 rfl) ?_
    refine lv_ifnonnull (tgt := 55) hx hb dX4_goOn_51 (by decide) ?_
    refine lv_iconst (v := 0) hx hb dX4_goOn_55 (by decide +kernel) ?_
    refine lv_istore (lv' := [(5, .int 0), (4, .ref (pr 2)), (3, .ref (pr 1)), (0, .ref g0), (1, .int 1), (2, .int n)]) hx hb dX4_goOn_56 hl (by decide) rfl (fun ls hl => ?_)
    obtain ⟨fx_7, hfx_7⟩ : ∃ f : Nat → (Nat → Int32) × (Nat → Int64) × (Nat → Int32) × (Nat → Int32) × (Nat → Int32) × (Nat → Int32) × (Nat → Int32) → (Nat → Int32) × (Nat → Int64) × (Nat → Int32) × (Nat → Int32) × (Nat → Int32) × (Nat → Int32) × (Nat → Int32), f = (bd_X4_goOn1_58 c0 p1 S F n) := ⟨_, rfl⟩
    have hN_x_7 : (Z 4).toNatClampNeg < 2 ^ 31 := clamp_lt _
    have Lx_7 : ∀ (nn i_6 : Nat) (x_7 : (Nat → Int32) × (Nat → Int64) × (Nat → Int32) × (Nat → Int32) × (Nat → Int32) × (Nat → Int32) × (Nat → Int32)), (Z 4).toNatClampNeg + 1 ≤ i_6 + nn → i_6 ≤ (Z 4).toNatClampNeg → x_7 = lp fx_7 i_6 (Z_1, t_2, w_3, p2, p3, p4, p5) → (x_7.1) 4 = Z 4 → ∀ (H : Heap) (locs : List Loc), va_P D vwCl [(g0, oX4 pa tb fw ch (x_7.1)), (pa, .inl (cO, 6, .inr (.inr (.inr (.inr (fun k => some (pr k))))))), (tb, .inl (cJ, 2048, .inr (.inl (x_7.2.1)))), (fw, .inl (cI, 5, .inl (x_7.2.2.1))), (ch, .inl (cI, 4, .inl c0)), ((pr 1), oX2 b0 b1 p1), ((pr 2), oX2 b0 b1 (x_7.2.2.2.1)), ((pr 3), oX2 b0 b1 (x_7.2.2.2.2.1)), ((pr 4), oX2 b0 b1 (x_7.2.2.2.2.2.1)), ((pr 5), oX2 b0 b1 (x_7.2.2.2.2.2.2)), (b0, oX5 S), (b1, oX0 F)] H → va_D A [(g0, oX4 pa tb fw ch (x_7.1)), (pa, .inl (cO, 6, .inr (.inr (.inr (.inr (fun k => some (pr k))))))), (tb, .inl (cJ, 2048, .inr (.inl (x_7.2.1)))), (fw, .inl (cI, 5, .inl (x_7.2.2.1))), (ch, .inl (cI, 4, .inl c0)), ((pr 1), oX2 b0 b1 p1), ((pr 2), oX2 b0 b1 (x_7.2.2.2.1)), ((pr 3), oX2 b0 b1 (x_7.2.2.2.2.1)), ((pr 4), oX2 b0 b1 (x_7.2.2.2.2.2.1)), ((pr 5), oX2 b0 b1 (x_7.2.2.2.2.2.2)), (b0, oX5 S), (b1, oX0 F)] → va_S A s.heap H locs → ∀ ls : Array Slot, lv_has ls 6 [(0, .ref g0), (1, .int 1), (2, .int n), (3, .ref (pr 1)), (4, .ref (pr 2)), (5, .int (nI i_6))] → W p l e (RM 8) s m ([.ref g0, .int 1, .int n] : List Value).toArray below meth c H locs 0 0 Q (F0 m 58 ls []) := by
      intro nn_x_7
      induction nn_x_7 with
      | zero => intro i_6 x_7 h1 h2; exact absurd h1 (by omega)
      | succ nn_x_7 ih_x_7 =>
        intro i_6 x_7 hn_x_7 hi_i_6 ex_x_7 hv_x_7 H locs hP hD hS ls hl
        have hB_x_7 : (((x_7.1) 4) : Int32) = nI ((Z 4).toNatClampNeg) := hv_x_7.trans (nI_self hc0)
        refine lv_iload hx hb dX4_goOn_58 (lv_at hl 5 rfl) ?_
        refine lv_aload_n hx hb dX4_goOn_60 rfl (lv_at hl 0 rfl) ?_
        refine k_get hx hb hts hi4 hown hK hP 0 rfl rfl 4 (by decide) hf28 (.int ((x_7.1) 4)) rfl dX4_goOn_61 ?_
        refine lv_icmp_ge (tgt := 109) hx hb dX4_goOn_64 (by decide) (fun c_8 => ?_) (fun c_8 => ?_)
        · skip
          have hq_x_7 : i_6 = (Z 4).toNatClampNeg := k_eq hB_x_7 c_8 hi_i_6 hN_x_7
          have ex_7 : x_7 = lp (bd_X4_goOn1_58 c0 p1 S F n) ((Z 4).toNatClampNeg) (Z_1, t_2, w_3, p2, p3, p4, p5) := by rw [ex_x_7, hfx_7, hq_x_7]
          have hsp : sp_X4_goOn1 Z t0 w0 c0 p1 p2 p3 p4 p5 S F n = ((x_7.1), (x_7.2.1), (x_7.2.2.1), (x_7.2.2.2.1), (x_7.2.2.2.2.1), (x_7.2.2.2.2.2.1), (x_7.2.2.2.2.2.2)) := sq_X4_goOn1_2 Z t0 w0 c0 p1 p2 p3 p4 p5 S F n Z_1 t_2 w_3 x_7 eZ_1 et_2 ew_3 ex_7 c_4
          exact hret _ _ _ _ (by rw [hsp]; exact hP) hS dX4_goOn_109
        · skip
          have hlt_i_6 : i_6 < (Z 4).toNatClampNeg := k_lt hB_x_7 c_8 hi_i_6 hN_x_7
          refine lv_iload hx hb dX4_goOn_67 (lv_at hl 5 rfl) ?_
          refine lv_aload_n hx hb dX4_goOn_69 rfl (lv_at hl 0 rfl) ?_
          refine k_get hx hb hts hi4 hown hK hP 0 rfl rfl 3 (by decide) hf25 (.ref ch) rfl dX4_goOn_70 ?_
          refine va_alen hx hb hK hP 4 0 rfl rfl (v := 4) (show Int32.ofNat 4 = 4 by decide +kernel) dX4_goOn_73 ?_
          refine lv_icmp_ge (tgt := 109) hx hb dX4_goOn_74 (by decide) (fun q => absurd q (show ¬ (nI 4 ≤ (nI i_6)) from nI_ge (by omega) (by decide))) (fun _ => ?_)
          refine lv_aload hx hb dX4_goOn_77 (lv_at hl 4 rfl) ?_
          refine lv_aload_n hx hb dX4_goOn_79 rfl (lv_at hl 3 rfl) ?_
          obtain ⟨P_9, eP_9⟩ : ∃ q : Nat → Int32, q = (sp_X2_copyFrom (x_7.2.2.2.1) p1) := ⟨_, rfl⟩
          refine k_Vv ⟨hx, hb, hml, hown, hts⟩ (c_X2_copyFrom l D cI cJ cO (pr 2) (pr 1) b0 b1 (x_7.2.2.2.1) p1) (ci := 2) (q0 := 6) rfl rfl (cwV 1 hts gX4_goOn_X2_copyFrom rfl rfl rfl (by decide +kernel) ⟨Nat.le_of_ble_eq_true rfl, Nat.le_of_ble_eq_true rfl⟩) hK hN hP hD hS hA [6, 5] rfl rfl rfl (ws' := [(g0, oX4 pa tb fw ch (x_7.1)), (pa, .inl (cO, 6, .inr (.inr (.inr (.inr (fun k => some (pr k))))))), (tb, .inl (cJ, 2048, .inr (.inl (x_7.2.1)))), (fw, .inl (cI, 5, .inl (x_7.2.2.1))), (ch, .inl (cI, 4, .inl c0)), ((pr 1), oX2 b0 b1 p1), ((pr 2), oX2 b0 b1 P_9), ((pr 3), oX2 b0 b1 (x_7.2.2.2.2.1)), ((pr 4), oX2 b0 b1 (x_7.2.2.2.2.2.1)), ((pr 5), oX2 b0 b1 (x_7.2.2.2.2.2.2)), (b0, oX5 S), (b1, oX0 F)]) (by rw [eP_9]; rfl) rfl hl.1 rfl (Nat.le_of_ble_eq_true rfl) dX4_goOn_80 ⟨Nat.le_refl _, Nat.le_refl _⟩ (fun H locs hP hD hS => ?_)
          refine lv_aload hx hb dX4_goOn_83 (lv_at hl 4 rfl) ?_
          refine lv_aload_n hx hb dX4_goOn_85 rfl (lv_at hl 0 rfl) ?_
          refine k_get hx hb hts hi4 hown hK hP 0 rfl rfl 3 (by decide) hf25 (.ref ch) rfl dX4_goOn_86 ?_
          refine lv_iload hx hb dX4_goOn_89 (lv_at hl 5 rfl) ?_
          refine k_iald hx hb hK hP 4 0 rfl rfl i_6 (nI_clamp (by omega)) (vp_in_nI (by omega) (by omega)) dX4_goOn_91 ?_
          obtain ⟨P_10, eP_10⟩ : ∃ q : Nat → Int32, q = (sp_X2_advance P_9 S F (c0 i_6)) := ⟨_, rfl⟩
          refine k_Vv ⟨hx, hb, hml, hown, hts⟩ (c_X2_advance l D cI cJ cO (pr 2) b0 b1 P_9 S F (c0 i_6)) (ci := 2) (q0 := 6) rfl rfl (cwV 1 hts gX4_goOn_X2_advance rfl rfl rfl (by decide +kernel) ⟨Nat.le_of_ble_eq_true rfl, Nat.le_of_ble_eq_true rfl⟩) hK hN hP hD hS hA [6, 10, 11] rfl rfl rfl (ws' := [(g0, oX4 pa tb fw ch (x_7.1)), (pa, .inl (cO, 6, .inr (.inr (.inr (.inr (fun k => some (pr k))))))), (tb, .inl (cJ, 2048, .inr (.inl (x_7.2.1)))), (fw, .inl (cI, 5, .inl (x_7.2.2.1))), (ch, .inl (cI, 4, .inl c0)), ((pr 1), oX2 b0 b1 p1), ((pr 2), oX2 b0 b1 P_10), ((pr 3), oX2 b0 b1 (x_7.2.2.2.2.1)), ((pr 4), oX2 b0 b1 (x_7.2.2.2.2.2.1)), ((pr 5), oX2 b0 b1 (x_7.2.2.2.2.2.2)), (b0, oX5 S), (b1, oX0 F)]) (by rw [eP_10]; rfl) rfl hl.1 rfl (Nat.le_of_ble_eq_true rfl) dX4_goOn_92 ⟨Nat.le_refl _, Nat.le_refl _⟩ (fun H locs hP hD hS => ?_)
          refine lv_aload_n hx hb dX4_goOn_95 rfl (lv_at hl 0 rfl) ?_
          refine lv_iload_n hx hb dX4_goOn_96 rfl (lv_at hl 1 rfl) ?_
          refine lv_iconst (v := 1) hx hb dX4_goOn_97 (by decide +kernel) ?_
          refine lv_iadd hx hb dX4_goOn_98 ?_
          refine lv_topi (fun z_11 ez_11 => ?_)
          obtain rfl : z_11 = 2 := ez_11.trans (by decide +kernel)
          refine lv_iload_n hx hb dX4_goOn_99 rfl (lv_at hl 2 rfl) ?_
          obtain ⟨Z_12, eZ_12⟩ : ∃ q : Nat → Int32, q = ((sp_X4_goOn2 (x_7.1) (x_7.2.1) (x_7.2.2.1) c0 P_10 (x_7.2.2.2.2.1) (x_7.2.2.2.2.2.1) (x_7.2.2.2.2.2.2) S F n).1) := ⟨_, rfl⟩
          obtain ⟨t_13, et_13⟩ : ∃ q : Nat → Int64, q = ((sp_X4_goOn2 (x_7.1) (x_7.2.1) (x_7.2.2.1) c0 P_10 (x_7.2.2.2.2.1) (x_7.2.2.2.2.2.1) (x_7.2.2.2.2.2.2) S F n).2.1) := ⟨_, rfl⟩
          obtain ⟨w_14, ew_14⟩ : ∃ q : Nat → Int32, q = ((sp_X4_goOn2 (x_7.1) (x_7.2.1) (x_7.2.2.1) c0 P_10 (x_7.2.2.2.2.1) (x_7.2.2.2.2.2.1) (x_7.2.2.2.2.2.2) S F n).2.2.1) := ⟨_, rfl⟩
          obtain ⟨p_15, ep_15⟩ : ∃ q : Nat → Int32, q = ((sp_X4_goOn2 (x_7.1) (x_7.2.1) (x_7.2.2.1) c0 P_10 (x_7.2.2.2.2.1) (x_7.2.2.2.2.2.1) (x_7.2.2.2.2.2.2) S F n).2.2.2.1) := ⟨_, rfl⟩
          obtain ⟨p_16, ep_16⟩ : ∃ q : Nat → Int32, q = ((sp_X4_goOn2 (x_7.1) (x_7.2.1) (x_7.2.2.1) c0 P_10 (x_7.2.2.2.2.1) (x_7.2.2.2.2.2.1) (x_7.2.2.2.2.2.2) S F n).2.2.2.2.1) := ⟨_, rfl⟩
          obtain ⟨p_17, ep_17⟩ : ∃ q : Nat → Int32, q = ((sp_X4_goOn2 (x_7.1) (x_7.2.1) (x_7.2.2.1) c0 P_10 (x_7.2.2.2.2.1) (x_7.2.2.2.2.2.1) (x_7.2.2.2.2.2.2) S F n).2.2.2.2.2) := ⟨_, rfl⟩
          refine k_Sv ⟨hx, hb, hml, hown, hts⟩ (c_X4_goOn2 l D cI cJ cO g0 pa tb fw ch pr b0 b1 (x_7.1) (x_7.2.1) (x_7.2.2.1) c0 P_10 (x_7.2.2.2.2.1) (x_7.2.2.2.2.2.1) (x_7.2.2.2.2.2.2) S F n (by rw [hv_x_7]; exact hc0) (by rw [hv_x_7]; exact hc4)) (va_cwS 3 hts gX4_goOn_X4_goOn rfl rfl rfl (by decide +kernel) ⟨Nat.le_of_ble_eq_true rfl, Nat.le_of_ble_eq_true rfl⟩) hK hN hP hD hS hA [0, 1, 2, 3, 4, 6, 7, 8, 9, 10, 11] rfl rfl rfl (ws' := [(g0, oX4 pa tb fw ch Z_12), (pa, .inl (cO, 6, .inr (.inr (.inr (.inr (fun k => some (pr k))))))), (tb, .inl (cJ, 2048, .inr (.inl t_13))), (fw, .inl (cI, 5, .inl w_14)), (ch, .inl (cI, 4, .inl c0)), ((pr 1), oX2 b0 b1 p1), ((pr 2), oX2 b0 b1 P_10), ((pr 3), oX2 b0 b1 p_15), ((pr 4), oX2 b0 b1 p_16), ((pr 5), oX2 b0 b1 p_17), (b0, oX5 S), (b1, oX0 F)]) (by rw [eZ_12, et_13, ew_14, ep_15, ep_16, ep_17]; rfl) rfl hl.1 rfl (Nat.le_of_ble_eq_true rfl) dX4_goOn_100 ⟨Nat.le_refl _, Nat.le_refl _⟩ (fun H locs hP hD hS => ?_)
          refine lv_iinc (v := (nI (i_6 + 1))) (lv' := [(5, .int (nI (i_6 + 1))), (0, .ref g0), (1, .int 1), (2, .int n), (3, .ref (pr 1)), (4, .ref (pr 2))]) hx hb dX4_goOn_103 hl (k := 5) rfl (nI_1 i_6) (by decide) rfl (fun ls hl => ?_)
          refine lv_goto (tgt := 58) hx hb dX4_goOn_106 (by decide) ?_
          exact ih_x_7 (i_6 + 1) (Z_12, t_13, w_14, P_10, p_15, p_16, p_17) (by omega) (by omega) (by subst ep_17; subst ep_16; subst ep_15; subst ew_14; subst et_13; subst eZ_12; subst eP_10; subst eP_9; rw [show lp fx_7 (i_6 + 1) (Z_1, t_2, w_3, p2, p3, p4, p5) = fx_7 i_6 (lp fx_7 i_6 (Z_1, t_2, w_3, p2, p3, p4, p5)) from rfl, ← ex_x_7, hfx_7]; try (first | (rfl; done) | rfl)) (by (try simp only [ep_17, ep_16, ep_15, ew_14, et_13, eZ_12, eP_10, eP_9, ew_3, et_2, eZ_1, meet_4, goOn2_4, upd]); first | done | rfl | exact hv_x_7 | (simp only [hv_x_7])) _ _ hP hD hS _ (lv_sub hl [1, 2, 3, 4, 5, 0] rfl)
    exact Lx_7 ((Z 4).toNatClampNeg + 1) 0 (Z_1, t_2, w_3, p2, p3, p4, p5) (by omega) (Nat.zero_le _) rfl (by (try simp only [ew_3, et_2, eZ_1, meet_4, goOn2_4, upd]); first | done | rfl) _ _ hP hD hS _ (lv_sub hl [3, 4, 5, 2, 1, 0] rfl)

theorem goOn1_4 (Z : Nat → Int32) (t0 : Nat → Int64) (w0 : Nat → Int32) (c0 : Nat → Int32) (p1 : Nat → Int32) (p2 : Nat → Int32) (p3 : Nat → Int32) (p4 : Nat → Int32) (p5 : Nat → Int32) (S : Nat → Int32) (F : Nat → Int32) (n : Int32) : (sp_X4_goOn1 Z t0 w0 c0 p1 p2 p3 p4 p5 S F n).1 4 = Z 4 := by
  simp only [sp_X4_goOn1]
  split
  · exact meet_4 Z t0 w0 p1 1
  · refine lp_inv (I := fun x : (Nat → Int32) × (Nat → Int64) × (Nat → Int32) × (Nat → Int32) × (Nat → Int32) × (Nat → Int32) × (Nat → Int32) => x.1 4 = Z 4) (fun i x hx => ?_) _ _ (meet_4 Z t0 w0 p1 1)
    simp only [bd_X4_goOn1_58]
    exact (goOn2_4 _ _ _ _ _ _ _ _ _ _ _).trans hx

def bd_X4_goOn0_58 (c0 : Nat → Int32) (p0 : Nat → Int32) (S : Nat → Int32) (F : Nat → Int32) (n : Int32) (i_6 : Nat) (x_7 : (Nat → Int32) × (Nat → Int64) × (Nat → Int32) × (Nat → Int32) × (Nat → Int32) × (Nat → Int32) × (Nat → Int32) × (Nat → Int32)) : (Nat → Int32) × (Nat → Int64) × (Nat → Int32) × (Nat → Int32) × (Nat → Int32) × (Nat → Int32) × (Nat → Int32) × (Nat → Int32) :=
  (let P_8 : Nat → Int32 := (sp_X2_copyFrom (x_7.2.2.2.1) p0); (let P_9 : Nat → Int32 := (sp_X2_advance P_8 S F (c0 i_6)); (let Z_11 : Nat → Int32 := ((sp_X4_goOn1 (x_7.1) (x_7.2.1) (x_7.2.2.1) c0 P_9 (x_7.2.2.2.2.1) (x_7.2.2.2.2.2.1) (x_7.2.2.2.2.2.2.1) (x_7.2.2.2.2.2.2.2) S F n).1); (let t_12 : Nat → Int64 := ((sp_X4_goOn1 (x_7.1) (x_7.2.1) (x_7.2.2.1) c0 P_9 (x_7.2.2.2.2.1) (x_7.2.2.2.2.2.1) (x_7.2.2.2.2.2.2.1) (x_7.2.2.2.2.2.2.2) S F n).2.1); (let w_13 : Nat → Int32 := ((sp_X4_goOn1 (x_7.1) (x_7.2.1) (x_7.2.2.1) c0 P_9 (x_7.2.2.2.2.1) (x_7.2.2.2.2.2.1) (x_7.2.2.2.2.2.2.1) (x_7.2.2.2.2.2.2.2) S F n).2.2.1); (let p_14 : Nat → Int32 := ((sp_X4_goOn1 (x_7.1) (x_7.2.1) (x_7.2.2.1) c0 P_9 (x_7.2.2.2.2.1) (x_7.2.2.2.2.2.1) (x_7.2.2.2.2.2.2.1) (x_7.2.2.2.2.2.2.2) S F n).2.2.2.1); (let p_15 : Nat → Int32 := ((sp_X4_goOn1 (x_7.1) (x_7.2.1) (x_7.2.2.1) c0 P_9 (x_7.2.2.2.2.1) (x_7.2.2.2.2.2.1) (x_7.2.2.2.2.2.2.1) (x_7.2.2.2.2.2.2.2) S F n).2.2.2.2.1); (let p_16 : Nat → Int32 := ((sp_X4_goOn1 (x_7.1) (x_7.2.1) (x_7.2.2.1) c0 P_9 (x_7.2.2.2.2.1) (x_7.2.2.2.2.2.1) (x_7.2.2.2.2.2.2.1) (x_7.2.2.2.2.2.2.2) S F n).2.2.2.2.2.1); (let p_17 : Nat → Int32 := ((sp_X4_goOn1 (x_7.1) (x_7.2.1) (x_7.2.2.1) c0 P_9 (x_7.2.2.2.2.1) (x_7.2.2.2.2.2.1) (x_7.2.2.2.2.2.2.1) (x_7.2.2.2.2.2.2.2) S F n).2.2.2.2.2.2); (Z_11, t_12, w_13, P_9, p_14, p_15, p_16, p_17))))))))))
def sp_X4_goOn0 (Z : Nat → Int32) (t0 : Nat → Int64) (w0 : Nat → Int32) (c0 : Nat → Int32) (p0 : Nat → Int32) (p1 : Nat → Int32) (p2 : Nat → Int32) (p3 : Nat → Int32) (p4 : Nat → Int32) (p5 : Nat → Int32) (S : Nat → Int32) (F : Nat → Int32) (n : Int32) : (Nat → Int32) × (Nat → Int64) × (Nat → Int32) × (Nat → Int32) × (Nat → Int32) × (Nat → Int32) × (Nat → Int32) × (Nat → Int32) :=
  let Z_1 : Nat → Int32 := ((sp_X4_meet Z t0 w0 p0 0).1)
  let t_2 : Nat → Int64 := ((sp_X4_meet Z t0 w0 p0 0).2.1)
  let w_3 : Nat → Int32 := ((sp_X4_meet Z t0 w0 p0 0).2.2)
  (if n ≤ 0 then
    (Z_1, t_2, w_3, p1, p2, p3, p4, p5)
  else
    let x_7 : (Nat → Int32) × (Nat → Int64) × (Nat → Int32) × (Nat → Int32) × (Nat → Int32) × (Nat → Int32) × (Nat → Int32) × (Nat → Int32) := lp (bd_X4_goOn0_58 c0 p0 S F n) ((Z 4).toNatClampNeg) (Z_1, t_2, w_3, p1, p2, p3, p4, p5)
    ((x_7.1), (x_7.2.1), (x_7.2.2.1), (x_7.2.2.2.1), (x_7.2.2.2.2.1), (x_7.2.2.2.2.2.1), (x_7.2.2.2.2.2.2.1), (x_7.2.2.2.2.2.2.2)))
set_option maxRecDepth 100000 in
theorem sq_X4_goOn0_1 (Z : Nat → Int32) (t0 : Nat → Int64) (w0 : Nat → Int32) (c0 : Nat → Int32) (p0 : Nat → Int32) (p1 : Nat → Int32) (p2 : Nat → Int32) (p3 : Nat → Int32) (p4 : Nat → Int32) (p5 : Nat → Int32) (S : Nat → Int32) (F : Nat → Int32) (n : Int32) (Z_1 : Nat → Int32) (t_2 : Nat → Int64) (w_3 : Nat → Int32) (eZ_1 : Z_1 = ((sp_X4_meet Z t0 w0 p0 0).1)) (et_2 : t_2 = ((sp_X4_meet Z t0 w0 p0 0).2.1)) (ew_3 : w_3 = ((sp_X4_meet Z t0 w0 p0 0).2.2)) (c_4 : n ≤ 0) : sp_X4_goOn0 Z t0 w0 c0 p0 p1 p2 p3 p4 p5 S F n = (Z_1, t_2, w_3, p1, p2, p3, p4, p5) := by subst ew_3; subst et_2; subst eZ_1; simp only [sp_X4_goOn0, if_pos c_4]
set_option maxRecDepth 100000 in
theorem sq_X4_goOn0_2 (Z : Nat → Int32) (t0 : Nat → Int64) (w0 : Nat → Int32) (c0 : Nat → Int32) (p0 : Nat → Int32) (p1 : Nat → Int32) (p2 : Nat → Int32) (p3 : Nat → Int32) (p4 : Nat → Int32) (p5 : Nat → Int32) (S : Nat → Int32) (F : Nat → Int32) (n : Int32) (Z_1 : Nat → Int32) (t_2 : Nat → Int64) (w_3 : Nat → Int32) (x_7 : (Nat → Int32) × (Nat → Int64) × (Nat → Int32) × (Nat → Int32) × (Nat → Int32) × (Nat → Int32) × (Nat → Int32) × (Nat → Int32)) (eZ_1 : Z_1 = ((sp_X4_meet Z t0 w0 p0 0).1)) (et_2 : t_2 = ((sp_X4_meet Z t0 w0 p0 0).2.1)) (ew_3 : w_3 = ((sp_X4_meet Z t0 w0 p0 0).2.2)) (ex_7 : x_7 = lp (bd_X4_goOn0_58 c0 p0 S F n) ((Z 4).toNatClampNeg) (Z_1, t_2, w_3, p1, p2, p3, p4, p5)) (c_4 : ¬ (n ≤ 0)) : sp_X4_goOn0 Z t0 w0 c0 p0 p1 p2 p3 p4 p5 S F n = ((x_7.1), (x_7.2.1), (x_7.2.2.1), (x_7.2.2.2.1), (x_7.2.2.2.2.1), (x_7.2.2.2.2.2.1), (x_7.2.2.2.2.2.2.1), (x_7.2.2.2.2.2.2.2)) := by subst ex_7; subst ew_3; subst et_2; subst eZ_1; simp only [sp_X4_goOn0, if_neg c_4]
set_option maxHeartbeats 4000000 in
set_option maxRecDepth 100000 in
theorem c_X4_goOn0 (l : Launch) (D : va_G) (cI cJ cO : ClassId) (g0 : Nat) (pa : Nat) (tb : Nat) (fw : Nat) (ch : Nat) (pr : Nat → Nat) (b0 : Nat) (b1 : Nat) (Z : Nat → Int32) (t0 : Nat → Int64) (w0 : Nat → Int32) (c0 : Nat → Int32) (p0 : Nat → Int32) (p1 : Nat → Int32) (p2 : Nat → Int32) (p3 : Nat → Int32) (p4 : Nat → Int32) (p5 : Nat → Int32) (S : Nat → Int32) (F : Nat → Int32) (n : Int32) (hc0 : ¬ Z 4 < 0) (hc4 : (Z 4).toNatClampNeg ≤ 4) : MV l D (TY cI cJ cO) yX4_goOn wsX4_goOn (RM 9) [.ref g0, .int 0, .int n] [(g0, oX4 pa tb fw ch Z), (pa, .inl (cO, 6, .inr (.inr (.inr (.inr (fun k => some (pr k))))))), (tb, .inl (cJ, 2048, .inr (.inl t0))), (fw, .inl (cI, 5, .inl w0)), (ch, .inl (cI, 4, .inl c0)), ((pr 0), oX2 b0 b1 p0), ((pr 1), oX2 b0 b1 p1), ((pr 2), oX2 b0 b1 p2), ((pr 3), oX2 b0 b1 p3), ((pr 4), oX2 b0 b1 p4), ((pr 5), oX2 b0 b1 p5), (b0, oX5 S), (b1, oX0 F)] [(g0, oX4 pa tb fw ch ((sp_X4_goOn0 Z t0 w0 c0 p0 p1 p2 p3 p4 p5 S F n).1)), (pa, .inl (cO, 6, .inr (.inr (.inr (.inr (fun k => some (pr k))))))), (tb, .inl (cJ, 2048, .inr (.inl ((sp_X4_goOn0 Z t0 w0 c0 p0 p1 p2 p3 p4 p5 S F n).2.1)))), (fw, .inl (cI, 5, .inl ((sp_X4_goOn0 Z t0 w0 c0 p0 p1 p2 p3 p4 p5 S F n).2.2.1))), (ch, .inl (cI, 4, .inl c0)), ((pr 0), oX2 b0 b1 p0), ((pr 1), oX2 b0 b1 ((sp_X4_goOn0 Z t0 w0 c0 p0 p1 p2 p3 p4 p5 S F n).2.2.2.1)), ((pr 2), oX2 b0 b1 ((sp_X4_goOn0 Z t0 w0 c0 p0 p1 p2 p3 p4 p5 S F n).2.2.2.2.1)), ((pr 3), oX2 b0 b1 ((sp_X4_goOn0 Z t0 w0 c0 p0 p1 p2 p3 p4 p5 S F n).2.2.2.2.2.1)), ((pr 4), oX2 b0 b1 ((sp_X4_goOn0 Z t0 w0 c0 p0 p1 p2 p3 p4 p5 S F n).2.2.2.2.2.2.1)), ((pr 5), oX2 b0 b1 ((sp_X4_goOn0 Z t0 w0 c0 p0 p1 p2 p3 p4 p5 S F n).2.2.2.2.2.2.2)), (b0, oX5 S), (b1, oX0 F)] := by
  refine k_entV (cc := cX4_goOn) (maxL := 6) (lv := [(0, .ref g0), (1, .int 0), (2, .int n)]) (by decide +kernel) rfl (Nat.le_of_ble_eq_true rfl) rfl ?_
  intro p e s m below meth c A Q ls hx hb hml hts hown hA hS hP hD hK hN hl hret
  have hown : s.vm.findClass RX4 = some m.cls := hown
  have hi4 : ∀ w ∈ wsX40, w ∈ wsX4_goOn := fun w h => List.mem_cons_of_mem _ (List.mem_append_left _ (List.mem_append_left _ (List.mem_append_left _ (List.mem_append_right _ h))))
  have hf11 := hts (.fieldLink RX4 11 "PressGuard$Search" "path" "[LPressGuard$Press;") (by decide +kernel)
  have hf25 := hts (.fieldLink RX4 25 "PressGuard$Search" "choices" "[I") (by decide +kernel)
  have hf28 := hts (.fieldLink RX4 28 "PressGuard$Search" "choiceCount" "I") (by decide +kernel)
  refine lv_iload_n hx hb dX4_goOn_0 rfl (lv_at hl 1 rfl) ?_
  refine lv_iconst (v := 0) hx hb dX4_goOn_1 (by decide +kernel) ?_
  refine lv_iconst (v := 5) hx hb dX4_goOn_2 (by decide +kernel) ?_
  refine k_SNi ⟨hx, hb, hml, hown, hts⟩ (c_X8_within l D cI cJ cO 0 0 5) (va_cnB 3 hts gX4_goOn_X8_within_n65 rfl rfl rfl (hN.1 1 _ rfl) (hts (.initialized RX8) (by decide +kernel)) (by decide +kernel) ⟨Nat.le_of_ble_eq_true rfl, Nat.le_of_ble_eq_true rfl⟩) (hts (.static yX8_within) (by decide +kernel)) hK hN hP hD hS hA [] rfl rfl rfl (ws' := [(g0, oX4 pa tb fw ch Z), (pa, .inl (cO, 6, .inr (.inr (.inr (.inr (fun k => some (pr k))))))), (tb, .inl (cJ, 2048, .inr (.inl t0))), (fw, .inl (cI, 5, .inl w0)), (ch, .inl (cI, 4, .inl c0)), ((pr 0), oX2 b0 b1 p0), ((pr 1), oX2 b0 b1 p1), ((pr 2), oX2 b0 b1 p2), ((pr 3), oX2 b0 b1 p3), ((pr 4), oX2 b0 b1 p4), ((pr 5), oX2 b0 b1 p5), (b0, oX5 S), (b1, oX0 F)]) rfl rfl hl.1 rfl (Nat.le_of_ble_eq_true rfl) dX4_goOn_3 ⟨Nat.le_refl _, Nat.le_refl _⟩ (fun H locs hP hD hS => ?_)
  refine lv_if_ne (tgt := 10) hx hb dX4_goOn_6 (by decide) (fun _ => ?_) (fun q => absurd q (by decide +kernel))
  refine lv_aload_n hx hb dX4_goOn_10 rfl (lv_at hl 0 rfl) ?_
  refine k_get hx hb hts hi4 hown hK hP 0 rfl rfl 0 (by decide) hf11 (.ref pa) rfl dX4_goOn_11 ?_
  refine lv_iload_n hx hb dX4_goOn_14 rfl (lv_at hl 1 rfl) ?_
  refine k_aald hx hb hK hP 1 2 rfl rfl 0 (by decide +kernel) (vp_in_iff.mpr (by decide +kernel)) dX4_goOn_15 ?_
  refine lv_astore_n (lv' := [(3, .ref (pr 0)), (0, .ref g0), (1, .int 0), (2, .int n)]) hx hb dX4_goOn_16 rfl hl (by decide) rfl (fun ls hl => ?_)
  refine lv_aload_n hx hb dX4_goOn_17 rfl (lv_at hl 0 rfl) ?_
  refine lv_ifnonnull (tgt := 22) hx hb dX4_goOn_18 (by decide) ?_
  refine lv_aload_n hx hb dX4_goOn_22 rfl (lv_at hl 1 rfl) ?_
  refine lv_aload_n hx hb dX4_goOn_23 rfl (lv_at hl 0 rfl) ?_
  refine lv_iload_n hx hb dX4_goOn_24 rfl (lv_at hl 2 rfl) ?_
  obtain ⟨Z_1, eZ_1⟩ : ∃ q : Nat → Int32, q = ((sp_X4_meet Z t0 w0 p0 0).1) := ⟨_, rfl⟩
  obtain ⟨t_2, et_2⟩ : ∃ q : Nat → Int64, q = ((sp_X4_meet Z t0 w0 p0 0).2.1) := ⟨_, rfl⟩
  obtain ⟨w_3, ew_3⟩ : ∃ q : Nat → Int32, q = ((sp_X4_meet Z t0 w0 p0 0).2.2) := ⟨_, rfl⟩
  refine k_Vv ⟨hx, hb, hml, hown, hts⟩ (c_X4_meet l D cI cJ cO g0 (pr 0) pa tb fw ch b0 b1 Z t0 w0 p0 0) (ci := 4) (q0 := 0) rfl rfl (cwV 2 hts gX4_goOn_X4_meet rfl rfl rfl (by decide +kernel) ⟨Nat.le_of_ble_eq_true rfl, Nat.le_of_ble_eq_true rfl⟩) hK hN hP hD hS hA [0, 2, 3, 5] rfl rfl rfl (ws' := [(g0, oX4 pa tb fw ch Z_1), (pa, .inl (cO, 6, .inr (.inr (.inr (.inr (fun k => some (pr k))))))), (tb, .inl (cJ, 2048, .inr (.inl t_2))), (fw, .inl (cI, 5, .inl w_3)), (ch, .inl (cI, 4, .inl c0)), ((pr 0), oX2 b0 b1 p0), ((pr 1), oX2 b0 b1 p1), ((pr 2), oX2 b0 b1 p2), ((pr 3), oX2 b0 b1 p3), ((pr 4), oX2 b0 b1 p4), ((pr 5), oX2 b0 b1 p5), (b0, oX5 S), (b1, oX0 F)]) (by rw [eZ_1, et_2, ew_3]; rfl) rfl hl.1 rfl (Nat.le_of_ble_eq_true rfl) dX4_goOn_25 ⟨Nat.le_refl _, Nat.le_refl _⟩ (fun H locs hP hD hS => ?_)
  refine lv_iload_n hx hb dX4_goOn_28 rfl (lv_at hl 2 rfl) ?_
  refine lv_iload_n hx hb dX4_goOn_29 rfl (lv_at hl 3 rfl) ?_
  refine lv_icmp_ge (tgt := 38) hx hb dX4_goOn_30 (by decide) (fun c_4 => ?_) (fun c_4 => ?_)
  · skip
    have hsp : sp_X4_goOn0 Z t0 w0 c0 p0 p1 p2 p3 p4 p5 S F n = (Z_1, t_2, w_3, p1, p2, p3, p4, p5) := sq_X4_goOn0_1 Z t0 w0 c0 p0 p1 p2 p3 p4 p5 S F n Z_1 t_2 w_3 eZ_1 et_2 ew_3 c_4
    exact hret _ _ _ _ (by rw [hsp]; exact hP) hS dX4_goOn_38
  · skip
    refine lv_iload_n hx hb dX4_goOn_33 rfl (lv_at hl 2 rfl) ?_
    refine lv_iconst (v := 5) hx hb dX4_goOn_34 (by decide +kernel) ?_
    refine lv_icmp_lt (tgt := 39) hx hb dX4_goOn_35 (by decide) (fun _ => ?_) (fun q => absurd q (by decide +kernel))
    refine lv_aload_n hx hb dX4_goOn_39 rfl (lv_at hl 1 rfl) ?_
    refine k_get hx hb hts hi4 hown hK hP 0 rfl rfl 0 (by decide) hf11 (.ref pa) rfl dX4_goOn_40 ?_
    refine lv_iload_n hx hb dX4_goOn_43 rfl (lv_at hl 2 rfl) ?_
    refine lv_iconst (v := 1) hx hb dX4_goOn_44 (by decide +kernel) ?_
    refine lv_iadd hx hb dX4_goOn_45 ?_
    refine lv_topi (fun z_5 ez_5 => ?_)
    obtain rfl : z_5 = 1 := ez_5.trans (by decide +kernel)
    refine k_aald hx hb hK hP 1 2 rfl rfl 1 (by decide +kernel) (vp_in_iff.mpr (by decide +kernel)) dX4_goOn_46 ?_
    refine lv_astore (lv' := [(4, .ref (pr 1)), (3, .ref (pr 0)), (0, .ref g0), (1, .int 0), (2, .int n)]) hx hb dX4_goOn_47 hl (by decide) rfl (fun ls hl => ?_)
    refine lv_aload hx hb dX4_goOn_49 (lv_at hl 0 rfl) ?_
    refine lv_ifnonnull (tgt := 55) hx hb dX4_goOn_51 (by decide) ?_
    refine lv_iconst (v := 0) hx hb dX4_goOn_55 (by decide +kernel) ?_
    refine lv_istore (lv' := [(5, .int 0), (4, .ref (pr 1)), (3, .ref (pr 0)), (0, .ref g0), (1, .int 0), (2, .int n)]) hx hb dX4_goOn_56 hl (by decide) rfl (fun ls hl => ?_)
    obtain ⟨fx_7, hfx_7⟩ : ∃ f : Nat → (Nat → Int32) × (Nat → Int64) × (Nat → Int32) × (Nat → Int32) × (Nat → Int32) × (Nat → Int32) × (Nat → Int32) × (Nat → Int32) → (Nat → Int32) × (Nat → Int64) × (Nat → Int32) × (Nat → Int32) × (Nat → Int32) × (Nat → Int32) × (Nat → Int32) × (Nat → Int32), f = (bd_X4_goOn0_58 c0 p0 S F n) := ⟨_, rfl⟩
    have hN_x_7 : (Z 4).toNatClampNeg < 2 ^ 31 := clamp_lt _
    have Lx_7 : ∀ (nn i_6 : Nat) (x_7 : (Nat → Int32) × (Nat → Int64) × (Nat → Int32) × (Nat → Int32) × (Nat → Int32) × (Nat → Int32) × (Nat → Int32) × (Nat → Int32)), (Z 4).toNatClampNeg + 1 ≤ i_6 + nn → i_6 ≤ (Z 4).toNatClampNeg → x_7 = lp fx_7 i_6 (Z_1, t_2, w_3, p1, p2, p3, p4, p5) → (x_7.1) 4 = Z 4 → ∀ (H : Heap) (locs : List Loc), va_P D vwCl [(g0, oX4 pa tb fw ch (x_7.1)), (pa, .inl (cO, 6, .inr (.inr (.inr (.inr (fun k => some (pr k))))))), (tb, .inl (cJ, 2048, .inr (.inl (x_7.2.1)))), (fw, .inl (cI, 5, .inl (x_7.2.2.1))), (ch, .inl (cI, 4, .inl c0)), ((pr 0), oX2 b0 b1 p0), ((pr 1), oX2 b0 b1 (x_7.2.2.2.1)), ((pr 2), oX2 b0 b1 (x_7.2.2.2.2.1)), ((pr 3), oX2 b0 b1 (x_7.2.2.2.2.2.1)), ((pr 4), oX2 b0 b1 (x_7.2.2.2.2.2.2.1)), ((pr 5), oX2 b0 b1 (x_7.2.2.2.2.2.2.2)), (b0, oX5 S), (b1, oX0 F)] H → va_D A [(g0, oX4 pa tb fw ch (x_7.1)), (pa, .inl (cO, 6, .inr (.inr (.inr (.inr (fun k => some (pr k))))))), (tb, .inl (cJ, 2048, .inr (.inl (x_7.2.1)))), (fw, .inl (cI, 5, .inl (x_7.2.2.1))), (ch, .inl (cI, 4, .inl c0)), ((pr 0), oX2 b0 b1 p0), ((pr 1), oX2 b0 b1 (x_7.2.2.2.1)), ((pr 2), oX2 b0 b1 (x_7.2.2.2.2.1)), ((pr 3), oX2 b0 b1 (x_7.2.2.2.2.2.1)), ((pr 4), oX2 b0 b1 (x_7.2.2.2.2.2.2.1)), ((pr 5), oX2 b0 b1 (x_7.2.2.2.2.2.2.2)), (b0, oX5 S), (b1, oX0 F)] → va_S A s.heap H locs → ∀ ls : Array Slot, lv_has ls 6 [(0, .ref g0), (1, .int 0), (2, .int n), (3, .ref (pr 0)), (4, .ref (pr 1)), (5, .int (nI i_6))] → W p l e (RM 9) s m ([.ref g0, .int 0, .int n] : List Value).toArray below meth c H locs 0 0 Q (F0 m 58 ls []) := by
      intro nn_x_7
      induction nn_x_7 with
      | zero => intro i_6 x_7 h1 h2; exact absurd h1 (by omega)
      | succ nn_x_7 ih_x_7 =>
        intro i_6 x_7 hn_x_7 hi_i_6 ex_x_7 hv_x_7 H locs hP hD hS ls hl
        have hB_x_7 : (((x_7.1) 4) : Int32) = nI ((Z 4).toNatClampNeg) := hv_x_7.trans (nI_self hc0)
        refine lv_iload hx hb dX4_goOn_58 (lv_at hl 5 rfl) ?_
        refine lv_aload_n hx hb dX4_goOn_60 rfl (lv_at hl 0 rfl) ?_
        refine k_get hx hb hts hi4 hown hK hP 0 rfl rfl 4 (by decide) hf28 (.int ((x_7.1) 4)) rfl dX4_goOn_61 ?_
        refine lv_icmp_ge (tgt := 109) hx hb dX4_goOn_64 (by decide) (fun c_8 => ?_) (fun c_8 => ?_)
        · skip
          have hq_x_7 : i_6 = (Z 4).toNatClampNeg := k_eq hB_x_7 c_8 hi_i_6 hN_x_7
          have ex_7 : x_7 = lp (bd_X4_goOn0_58 c0 p0 S F n) ((Z 4).toNatClampNeg) (Z_1, t_2, w_3, p1, p2, p3, p4, p5) := by rw [ex_x_7, hfx_7, hq_x_7]
          have hsp : sp_X4_goOn0 Z t0 w0 c0 p0 p1 p2 p3 p4 p5 S F n = ((x_7.1), (x_7.2.1), (x_7.2.2.1), (x_7.2.2.2.1), (x_7.2.2.2.2.1), (x_7.2.2.2.2.2.1), (x_7.2.2.2.2.2.2.1), (x_7.2.2.2.2.2.2.2)) := sq_X4_goOn0_2 Z t0 w0 c0 p0 p1 p2 p3 p4 p5 S F n Z_1 t_2 w_3 x_7 eZ_1 et_2 ew_3 ex_7 c_4
          exact hret _ _ _ _ (by rw [hsp]; exact hP) hS dX4_goOn_109
        · skip
          have hlt_i_6 : i_6 < (Z 4).toNatClampNeg := k_lt hB_x_7 c_8 hi_i_6 hN_x_7
          refine lv_iload hx hb dX4_goOn_67 (lv_at hl 5 rfl) ?_
          refine lv_aload_n hx hb dX4_goOn_69 rfl (lv_at hl 0 rfl) ?_
          refine k_get hx hb hts hi4 hown hK hP 0 rfl rfl 3 (by decide) hf25 (.ref ch) rfl dX4_goOn_70 ?_
          refine va_alen hx hb hK hP 4 0 rfl rfl (v := 4) (show Int32.ofNat 4 = 4 by decide +kernel) dX4_goOn_73 ?_
          refine lv_icmp_ge (tgt := 109) hx hb dX4_goOn_74 (by decide) (fun q => absurd q (show ¬ (nI 4 ≤ (nI i_6)) from nI_ge (by omega) (by decide))) (fun _ => ?_)
          refine lv_aload hx hb dX4_goOn_77 (lv_at hl 4 rfl) ?_
          refine lv_aload_n hx hb dX4_goOn_79 rfl (lv_at hl 3 rfl) ?_
          obtain ⟨P_9, eP_9⟩ : ∃ q : Nat → Int32, q = (sp_X2_copyFrom (x_7.2.2.2.1) p0) := ⟨_, rfl⟩
          refine k_Vv ⟨hx, hb, hml, hown, hts⟩ (c_X2_copyFrom l D cI cJ cO (pr 1) (pr 0) b0 b1 (x_7.2.2.2.1) p0) (ci := 2) (q0 := 6) rfl rfl (cwV 1 hts gX4_goOn_X2_copyFrom rfl rfl rfl (by decide +kernel) ⟨Nat.le_of_ble_eq_true rfl, Nat.le_of_ble_eq_true rfl⟩) hK hN hP hD hS hA [6, 5] rfl rfl rfl (ws' := [(g0, oX4 pa tb fw ch (x_7.1)), (pa, .inl (cO, 6, .inr (.inr (.inr (.inr (fun k => some (pr k))))))), (tb, .inl (cJ, 2048, .inr (.inl (x_7.2.1)))), (fw, .inl (cI, 5, .inl (x_7.2.2.1))), (ch, .inl (cI, 4, .inl c0)), ((pr 0), oX2 b0 b1 p0), ((pr 1), oX2 b0 b1 P_9), ((pr 2), oX2 b0 b1 (x_7.2.2.2.2.1)), ((pr 3), oX2 b0 b1 (x_7.2.2.2.2.2.1)), ((pr 4), oX2 b0 b1 (x_7.2.2.2.2.2.2.1)), ((pr 5), oX2 b0 b1 (x_7.2.2.2.2.2.2.2)), (b0, oX5 S), (b1, oX0 F)]) (by rw [eP_9]; rfl) rfl hl.1 rfl (Nat.le_of_ble_eq_true rfl) dX4_goOn_80 ⟨Nat.le_refl _, Nat.le_refl _⟩ (fun H locs hP hD hS => ?_)
          refine lv_aload hx hb dX4_goOn_83 (lv_at hl 4 rfl) ?_
          refine lv_aload_n hx hb dX4_goOn_85 rfl (lv_at hl 0 rfl) ?_
          refine k_get hx hb hts hi4 hown hK hP 0 rfl rfl 3 (by decide) hf25 (.ref ch) rfl dX4_goOn_86 ?_
          refine lv_iload hx hb dX4_goOn_89 (lv_at hl 5 rfl) ?_
          refine k_iald hx hb hK hP 4 0 rfl rfl i_6 (nI_clamp (by omega)) (vp_in_nI (by omega) (by omega)) dX4_goOn_91 ?_
          obtain ⟨P_10, eP_10⟩ : ∃ q : Nat → Int32, q = (sp_X2_advance P_9 S F (c0 i_6)) := ⟨_, rfl⟩
          refine k_Vv ⟨hx, hb, hml, hown, hts⟩ (c_X2_advance l D cI cJ cO (pr 1) b0 b1 P_9 S F (c0 i_6)) (ci := 2) (q0 := 6) rfl rfl (cwV 1 hts gX4_goOn_X2_advance rfl rfl rfl (by decide +kernel) ⟨Nat.le_of_ble_eq_true rfl, Nat.le_of_ble_eq_true rfl⟩) hK hN hP hD hS hA [6, 11, 12] rfl rfl rfl (ws' := [(g0, oX4 pa tb fw ch (x_7.1)), (pa, .inl (cO, 6, .inr (.inr (.inr (.inr (fun k => some (pr k))))))), (tb, .inl (cJ, 2048, .inr (.inl (x_7.2.1)))), (fw, .inl (cI, 5, .inl (x_7.2.2.1))), (ch, .inl (cI, 4, .inl c0)), ((pr 0), oX2 b0 b1 p0), ((pr 1), oX2 b0 b1 P_10), ((pr 2), oX2 b0 b1 (x_7.2.2.2.2.1)), ((pr 3), oX2 b0 b1 (x_7.2.2.2.2.2.1)), ((pr 4), oX2 b0 b1 (x_7.2.2.2.2.2.2.1)), ((pr 5), oX2 b0 b1 (x_7.2.2.2.2.2.2.2)), (b0, oX5 S), (b1, oX0 F)]) (by rw [eP_10]; rfl) rfl hl.1 rfl (Nat.le_of_ble_eq_true rfl) dX4_goOn_92 ⟨Nat.le_refl _, Nat.le_refl _⟩ (fun H locs hP hD hS => ?_)
          refine lv_aload_n hx hb dX4_goOn_95 rfl (lv_at hl 0 rfl) ?_
          refine lv_iload_n hx hb dX4_goOn_96 rfl (lv_at hl 1 rfl) ?_
          refine lv_iconst (v := 1) hx hb dX4_goOn_97 (by decide +kernel) ?_
          refine lv_iadd hx hb dX4_goOn_98 ?_
          refine lv_topi (fun z_11 ez_11 => ?_)
          obtain rfl : z_11 = 1 := ez_11.trans (by decide +kernel)
          refine lv_iload_n hx hb dX4_goOn_99 rfl (lv_at hl 2 rfl) ?_
          obtain ⟨Z_12, eZ_12⟩ : ∃ q : Nat → Int32, q = ((sp_X4_goOn1 (x_7.1) (x_7.2.1) (x_7.2.2.1) c0 P_10 (x_7.2.2.2.2.1) (x_7.2.2.2.2.2.1) (x_7.2.2.2.2.2.2.1) (x_7.2.2.2.2.2.2.2) S F n).1) := ⟨_, rfl⟩
          obtain ⟨t_13, et_13⟩ : ∃ q : Nat → Int64, q = ((sp_X4_goOn1 (x_7.1) (x_7.2.1) (x_7.2.2.1) c0 P_10 (x_7.2.2.2.2.1) (x_7.2.2.2.2.2.1) (x_7.2.2.2.2.2.2.1) (x_7.2.2.2.2.2.2.2) S F n).2.1) := ⟨_, rfl⟩
          obtain ⟨w_14, ew_14⟩ : ∃ q : Nat → Int32, q = ((sp_X4_goOn1 (x_7.1) (x_7.2.1) (x_7.2.2.1) c0 P_10 (x_7.2.2.2.2.1) (x_7.2.2.2.2.2.1) (x_7.2.2.2.2.2.2.1) (x_7.2.2.2.2.2.2.2) S F n).2.2.1) := ⟨_, rfl⟩
          obtain ⟨p_15, ep_15⟩ : ∃ q : Nat → Int32, q = ((sp_X4_goOn1 (x_7.1) (x_7.2.1) (x_7.2.2.1) c0 P_10 (x_7.2.2.2.2.1) (x_7.2.2.2.2.2.1) (x_7.2.2.2.2.2.2.1) (x_7.2.2.2.2.2.2.2) S F n).2.2.2.1) := ⟨_, rfl⟩
          obtain ⟨p_16, ep_16⟩ : ∃ q : Nat → Int32, q = ((sp_X4_goOn1 (x_7.1) (x_7.2.1) (x_7.2.2.1) c0 P_10 (x_7.2.2.2.2.1) (x_7.2.2.2.2.2.1) (x_7.2.2.2.2.2.2.1) (x_7.2.2.2.2.2.2.2) S F n).2.2.2.2.1) := ⟨_, rfl⟩
          obtain ⟨p_17, ep_17⟩ : ∃ q : Nat → Int32, q = ((sp_X4_goOn1 (x_7.1) (x_7.2.1) (x_7.2.2.1) c0 P_10 (x_7.2.2.2.2.1) (x_7.2.2.2.2.2.1) (x_7.2.2.2.2.2.2.1) (x_7.2.2.2.2.2.2.2) S F n).2.2.2.2.2.1) := ⟨_, rfl⟩
          obtain ⟨p_18, ep_18⟩ : ∃ q : Nat → Int32, q = ((sp_X4_goOn1 (x_7.1) (x_7.2.1) (x_7.2.2.1) c0 P_10 (x_7.2.2.2.2.1) (x_7.2.2.2.2.2.1) (x_7.2.2.2.2.2.2.1) (x_7.2.2.2.2.2.2.2) S F n).2.2.2.2.2.2) := ⟨_, rfl⟩
          refine k_Sv ⟨hx, hb, hml, hown, hts⟩ (c_X4_goOn1 l D cI cJ cO g0 pa tb fw ch pr b0 b1 (x_7.1) (x_7.2.1) (x_7.2.2.1) c0 P_10 (x_7.2.2.2.2.1) (x_7.2.2.2.2.2.1) (x_7.2.2.2.2.2.2.1) (x_7.2.2.2.2.2.2.2) S F n (by rw [hv_x_7]; exact hc0) (by rw [hv_x_7]; exact hc4)) (va_cwS 3 hts gX4_goOn_X4_goOn rfl rfl rfl (by decide +kernel) ⟨Nat.le_of_ble_eq_true rfl, Nat.le_of_ble_eq_true rfl⟩) hK hN hP hD hS hA [0, 1, 2, 3, 4, 6, 7, 8, 9, 10, 11, 12] rfl rfl rfl (ws' := [(g0, oX4 pa tb fw ch Z_12), (pa, .inl (cO, 6, .inr (.inr (.inr (.inr (fun k => some (pr k))))))), (tb, .inl (cJ, 2048, .inr (.inl t_13))), (fw, .inl (cI, 5, .inl w_14)), (ch, .inl (cI, 4, .inl c0)), ((pr 0), oX2 b0 b1 p0), ((pr 1), oX2 b0 b1 P_10), ((pr 2), oX2 b0 b1 p_15), ((pr 3), oX2 b0 b1 p_16), ((pr 4), oX2 b0 b1 p_17), ((pr 5), oX2 b0 b1 p_18), (b0, oX5 S), (b1, oX0 F)]) (by rw [eZ_12, et_13, ew_14, ep_15, ep_16, ep_17, ep_18]; rfl) rfl hl.1 rfl (Nat.le_of_ble_eq_true rfl) dX4_goOn_100 ⟨Nat.le_refl _, Nat.le_refl _⟩ (fun H locs hP hD hS => ?_)
          refine lv_iinc (v := (nI (i_6 + 1))) (lv' := [(5, .int (nI (i_6 + 1))), (0, .ref g0), (1, .int 0), (2, .int n), (3, .ref (pr 0)), (4, .ref (pr 1))]) hx hb dX4_goOn_103 hl (k := 5) rfl (nI_1 i_6) (by decide) rfl (fun ls hl => ?_)
          refine lv_goto (tgt := 58) hx hb dX4_goOn_106 (by decide) ?_
          exact ih_x_7 (i_6 + 1) (Z_12, t_13, w_14, P_10, p_15, p_16, p_17, p_18) (by omega) (by omega) (by subst ep_18; subst ep_17; subst ep_16; subst ep_15; subst ew_14; subst et_13; subst eZ_12; subst eP_10; subst eP_9; rw [show lp fx_7 (i_6 + 1) (Z_1, t_2, w_3, p1, p2, p3, p4, p5) = fx_7 i_6 (lp fx_7 i_6 (Z_1, t_2, w_3, p1, p2, p3, p4, p5)) from rfl, ← ex_x_7, hfx_7]; try (first | (rfl; done) | rfl)) (by (try simp only [ep_18, ep_17, ep_16, ep_15, ew_14, et_13, eZ_12, eP_10, eP_9, ew_3, et_2, eZ_1, meet_4, goOn1_4, upd]); first | done | rfl | exact hv_x_7 | (simp only [hv_x_7])) _ _ hP hD hS _ (lv_sub hl [1, 2, 3, 4, 5, 0] rfl)
    exact Lx_7 ((Z 4).toNatClampNeg + 1) 0 (Z_1, t_2, w_3, p1, p2, p3, p4, p5) (by omega) (Nat.zero_le _) rfl (by (try simp only [ew_3, et_2, eZ_1, meet_4, goOn1_4, upd]); first | done | rfl) _ _ hP hD hS _ (lv_sub hl [3, 4, 5, 2, 1, 0] rfl)

theorem goOn0_4 (Z : Nat → Int32) (t0 : Nat → Int64) (w0 : Nat → Int32) (c0 : Nat → Int32) (p0 : Nat → Int32) (p1 : Nat → Int32) (p2 : Nat → Int32) (p3 : Nat → Int32) (p4 : Nat → Int32) (p5 : Nat → Int32) (S : Nat → Int32) (F : Nat → Int32) (n : Int32) : (sp_X4_goOn0 Z t0 w0 c0 p0 p1 p2 p3 p4 p5 S F n).1 4 = Z 4 := by
  simp only [sp_X4_goOn0]
  split
  · exact meet_4 Z t0 w0 p0 0
  · refine lp_inv (I := fun x : (Nat → Int32) × (Nat → Int64) × (Nat → Int32) × (Nat → Int32) × (Nat → Int32) × (Nat → Int32) × (Nat → Int32) × (Nat → Int32) => x.1 4 = Z 4) (fun i x hx => ?_) _ _ (meet_4 Z t0 w0 p0 0)
    simp only [bd_X4_goOn0_58]
    exact (goOn1_4 _ _ _ _ _ _ _ _ _ _ _ _).trans hx
