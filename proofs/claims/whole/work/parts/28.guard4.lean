def sp_X8_reach (G : Nat → Int32) (S : Nat → Int32) (F : Nat → Int32) (P : Nat → Int32) (Z : Nat → Int32) (t0 : Nat → Int64) (w0 : Nat → Int32) (c0 : Nat → Int32) (p0 : Nat → Int32) (p1 : Nat → Int32) (p2 : Nat → Int32) (p3 : Nat → Int32) (p4 : Nat → Int32) (p5 : Nat → Int32) (set : Int32) (may : Int32) (n : Int32) (what : Int32) : Int32 × (Nat → Int32) × (Nat → Int64) × (Nat → Int32) × (Nat → Int32) × (Nat → Int32) × (Nat → Int32) × (Nat → Int32) × (Nat → Int32) × (Nat → Int32) × (Nat → Int32) :=
  (if (sp_X8_isSet set) = 0 then
    ((-2), Z, t0, w0, c0, p0, p1, p2, p3, p4, p5)
  else
    (if (sp_X8_isSet may) = 0 then
      ((-2), Z, t0, w0, c0, p0, p1, p2, p3, p4, p5)
    else
      (if 2 < (sp_J6_bitCount_0f7a4 may) then
        ((-2), Z, t0, w0, c0, p0, p1, p2, p3, p4, p5)
      else
        (if (sp_X8_within n 0 5) = 0 then
          ((-2), Z, t0, w0, c0, p0, p1, p2, p3, p4, p5)
        else
          (if (sp_X8_within what 0 1) = 0 then
            (if (sp_X8_within what 10 14) = 0 then
              ((-2), Z, t0, w0, c0, p0, p1, p2, p3, p4, p5)
            else
              let Z_17 : Nat → Int32 := ((sp_X4_run Z t0 w0 c0 p0 p1 p2 p3 p4 p5 S F P set may n).1)
              let t_18 : Nat → Int64 := ((sp_X4_run Z t0 w0 c0 p0 p1 p2 p3 p4 p5 S F P set may n).2.1)
              let w_19 : Nat → Int32 := ((sp_X4_run Z t0 w0 c0 p0 p1 p2 p3 p4 p5 S F P set may n).2.2.1)
              let c_20 : Nat → Int32 := ((sp_X4_run Z t0 w0 c0 p0 p1 p2 p3 p4 p5 S F P set may n).2.2.2.1)
              let p_21 : Nat → Int32 := ((sp_X4_run Z t0 w0 c0 p0 p1 p2 p3 p4 p5 S F P set may n).2.2.2.2.1)
              let p_22 : Nat → Int32 := ((sp_X4_run Z t0 w0 c0 p0 p1 p2 p3 p4 p5 S F P set may n).2.2.2.2.2.1)
              let p_23 : Nat → Int32 := ((sp_X4_run Z t0 w0 c0 p0 p1 p2 p3 p4 p5 S F P set may n).2.2.2.2.2.2.1)
              let p_24 : Nat → Int32 := ((sp_X4_run Z t0 w0 c0 p0 p1 p2 p3 p4 p5 S F P set may n).2.2.2.2.2.2.2.1)
              let p_25 : Nat → Int32 := ((sp_X4_run Z t0 w0 c0 p0 p1 p2 p3 p4 p5 S F P set may n).2.2.2.2.2.2.2.2.1)
              let p_26 : Nat → Int32 := ((sp_X4_run Z t0 w0 c0 p0 p1 p2 p3 p4 p5 S F P set may n).2.2.2.2.2.2.2.2.2)
              ((sp_X4_part Z_17 w_19 what), Z_17, t_18, w_19, c_20, p_21, p_22, p_23, p_24, p_25, p_26))
          else
            let Z_6 : Nat → Int32 := ((sp_X4_run Z t0 w0 c0 p0 p1 p2 p3 p4 p5 S F P set may n).1)
            let t_7 : Nat → Int64 := ((sp_X4_run Z t0 w0 c0 p0 p1 p2 p3 p4 p5 S F P set may n).2.1)
            let w_8 : Nat → Int32 := ((sp_X4_run Z t0 w0 c0 p0 p1 p2 p3 p4 p5 S F P set may n).2.2.1)
            let c_9 : Nat → Int32 := ((sp_X4_run Z t0 w0 c0 p0 p1 p2 p3 p4 p5 S F P set may n).2.2.2.1)
            let p_10 : Nat → Int32 := ((sp_X4_run Z t0 w0 c0 p0 p1 p2 p3 p4 p5 S F P set may n).2.2.2.2.1)
            let p_11 : Nat → Int32 := ((sp_X4_run Z t0 w0 c0 p0 p1 p2 p3 p4 p5 S F P set may n).2.2.2.2.2.1)
            let p_12 : Nat → Int32 := ((sp_X4_run Z t0 w0 c0 p0 p1 p2 p3 p4 p5 S F P set may n).2.2.2.2.2.2.1)
            let p_13 : Nat → Int32 := ((sp_X4_run Z t0 w0 c0 p0 p1 p2 p3 p4 p5 S F P set may n).2.2.2.2.2.2.2.1)
            let p_14 : Nat → Int32 := ((sp_X4_run Z t0 w0 c0 p0 p1 p2 p3 p4 p5 S F P set may n).2.2.2.2.2.2.2.2.1)
            let p_15 : Nat → Int32 := ((sp_X4_run Z t0 w0 c0 p0 p1 p2 p3 p4 p5 S F P set may n).2.2.2.2.2.2.2.2.2)
            ((sp_X4_part Z_6 w_8 what), Z_6, t_7, w_8, c_9, p_10, p_11, p_12, p_13, p_14, p_15))))))
set_option maxRecDepth 100000 in
theorem sq_X8_reach_1 (G : Nat → Int32) (S : Nat → Int32) (F : Nat → Int32) (P : Nat → Int32) (Z : Nat → Int32) (t0 : Nat → Int64) (w0 : Nat → Int32) (c0 : Nat → Int32) (p0 : Nat → Int32) (p1 : Nat → Int32) (p2 : Nat → Int32) (p3 : Nat → Int32) (p4 : Nat → Int32) (p5 : Nat → Int32) (set : Int32) (may : Int32) (n : Int32) (what : Int32) (Z_6 : Nat → Int32) (t_7 : Nat → Int64) (w_8 : Nat → Int32) (c_9 : Nat → Int32) (p_10 : Nat → Int32) (p_11 : Nat → Int32) (p_12 : Nat → Int32) (p_13 : Nat → Int32) (p_14 : Nat → Int32) (p_15 : Nat → Int32) (eZ_6 : Z_6 = ((sp_X4_run Z t0 w0 c0 p0 p1 p2 p3 p4 p5 S F P set may n).1)) (et_7 : t_7 = ((sp_X4_run Z t0 w0 c0 p0 p1 p2 p3 p4 p5 S F P set may n).2.1)) (ew_8 : w_8 = ((sp_X4_run Z t0 w0 c0 p0 p1 p2 p3 p4 p5 S F P set may n).2.2.1)) (ec_9 : c_9 = ((sp_X4_run Z t0 w0 c0 p0 p1 p2 p3 p4 p5 S F P set may n).2.2.2.1)) (ep_10 : p_10 = ((sp_X4_run Z t0 w0 c0 p0 p1 p2 p3 p4 p5 S F P set may n).2.2.2.2.1)) (ep_11 : p_11 = ((sp_X4_run Z t0 w0 c0 p0 p1 p2 p3 p4 p5 S F P set may n).2.2.2.2.2.1)) (ep_12 : p_12 = ((sp_X4_run Z t0 w0 c0 p0 p1 p2 p3 p4 p5 S F P set may n).2.2.2.2.2.2.1)) (ep_13 : p_13 = ((sp_X4_run Z t0 w0 c0 p0 p1 p2 p3 p4 p5 S F P set may n).2.2.2.2.2.2.2.1)) (ep_14 : p_14 = ((sp_X4_run Z t0 w0 c0 p0 p1 p2 p3 p4 p5 S F P set may n).2.2.2.2.2.2.2.2.1)) (ep_15 : p_15 = ((sp_X4_run Z t0 w0 c0 p0 p1 p2 p3 p4 p5 S F P set may n).2.2.2.2.2.2.2.2.2)) (c_1 : ¬ ((sp_X8_isSet set) = 0)) (c_2 : ¬ ((sp_X8_isSet may) = 0)) (c_3 : ¬ (2 < (sp_J6_bitCount_0f7a4 may))) (c_4 : ¬ ((sp_X8_within n 0 5) = 0)) (c_5 : ¬ ((sp_X8_within what 0 1) = 0)) : sp_X8_reach G S F P Z t0 w0 c0 p0 p1 p2 p3 p4 p5 set may n what = ((sp_X4_part Z_6 w_8 what), Z_6, t_7, w_8, c_9, p_10, p_11, p_12, p_13, p_14, p_15) := by subst ep_15; subst ep_14; subst ep_13; subst ep_12; subst ep_11; subst ep_10; subst ec_9; subst ew_8; subst et_7; subst eZ_6; simp only [sp_X8_reach, if_neg c_1, if_neg c_2, if_neg c_3, if_neg c_4, if_neg c_5]
set_option maxRecDepth 100000 in
theorem sq_X8_reach_2 (G : Nat → Int32) (S : Nat → Int32) (F : Nat → Int32) (P : Nat → Int32) (Z : Nat → Int32) (t0 : Nat → Int64) (w0 : Nat → Int32) (c0 : Nat → Int32) (p0 : Nat → Int32) (p1 : Nat → Int32) (p2 : Nat → Int32) (p3 : Nat → Int32) (p4 : Nat → Int32) (p5 : Nat → Int32) (set : Int32) (may : Int32) (n : Int32) (what : Int32) (Z_17 : Nat → Int32) (t_18 : Nat → Int64) (w_19 : Nat → Int32) (c_20 : Nat → Int32) (p_21 : Nat → Int32) (p_22 : Nat → Int32) (p_23 : Nat → Int32) (p_24 : Nat → Int32) (p_25 : Nat → Int32) (p_26 : Nat → Int32) (eZ_17 : Z_17 = ((sp_X4_run Z t0 w0 c0 p0 p1 p2 p3 p4 p5 S F P set may n).1)) (et_18 : t_18 = ((sp_X4_run Z t0 w0 c0 p0 p1 p2 p3 p4 p5 S F P set may n).2.1)) (ew_19 : w_19 = ((sp_X4_run Z t0 w0 c0 p0 p1 p2 p3 p4 p5 S F P set may n).2.2.1)) (ec_20 : c_20 = ((sp_X4_run Z t0 w0 c0 p0 p1 p2 p3 p4 p5 S F P set may n).2.2.2.1)) (ep_21 : p_21 = ((sp_X4_run Z t0 w0 c0 p0 p1 p2 p3 p4 p5 S F P set may n).2.2.2.2.1)) (ep_22 : p_22 = ((sp_X4_run Z t0 w0 c0 p0 p1 p2 p3 p4 p5 S F P set may n).2.2.2.2.2.1)) (ep_23 : p_23 = ((sp_X4_run Z t0 w0 c0 p0 p1 p2 p3 p4 p5 S F P set may n).2.2.2.2.2.2.1)) (ep_24 : p_24 = ((sp_X4_run Z t0 w0 c0 p0 p1 p2 p3 p4 p5 S F P set may n).2.2.2.2.2.2.2.1)) (ep_25 : p_25 = ((sp_X4_run Z t0 w0 c0 p0 p1 p2 p3 p4 p5 S F P set may n).2.2.2.2.2.2.2.2.1)) (ep_26 : p_26 = ((sp_X4_run Z t0 w0 c0 p0 p1 p2 p3 p4 p5 S F P set may n).2.2.2.2.2.2.2.2.2)) (c_1 : ¬ ((sp_X8_isSet set) = 0)) (c_2 : ¬ ((sp_X8_isSet may) = 0)) (c_3 : ¬ (2 < (sp_J6_bitCount_0f7a4 may))) (c_4 : ¬ ((sp_X8_within n 0 5) = 0)) (c_5 : (sp_X8_within what 0 1) = 0) (c_16 : ¬ ((sp_X8_within what 10 14) = 0)) : sp_X8_reach G S F P Z t0 w0 c0 p0 p1 p2 p3 p4 p5 set may n what = ((sp_X4_part Z_17 w_19 what), Z_17, t_18, w_19, c_20, p_21, p_22, p_23, p_24, p_25, p_26) := by subst ep_26; subst ep_25; subst ep_24; subst ep_23; subst ep_22; subst ep_21; subst ec_20; subst ew_19; subst et_18; subst eZ_17; simp only [sp_X8_reach, if_neg c_1, if_neg c_2, if_neg c_3, if_neg c_4, if_pos c_5, if_neg c_16]
set_option maxHeartbeats 4000000 in
set_option maxRecDepth 100000 in
theorem c_X8_reach (l : Launch) (D : va_G) (cI cJ cO : ClassId) (h : Nat) (r : Nat → Nat) (pa : Nat) (tb : Nat) (fw : Nat) (ch : Nat) (pr : Nat → Nat) (G : Nat → Int32) (S : Nat → Int32) (F : Nat → Int32) (P : Nat → Int32) (Z : Nat → Int32) (t0 : Nat → Int64) (w0 : Nat → Int32) (c0 : Nat → Int32) (p0 : Nat → Int32) (p1 : Nat → Int32) (p2 : Nat → Int32) (p3 : Nat → Int32) (p4 : Nat → Int32) (p5 : Nat → Int32) (set : Int32) (may : Int32) (n : Int32) (what : Int32) (hc0 : ¬ sp_X8_isSet may = 0 → ¬ (sp_X4_chooseSets (upd (upd Z 5 0) 6 0) c0 set may).1 4 < 0) (hc4 : ¬ sp_X8_isSet may = 0 → ((sp_X4_chooseSets (upd (upd Z 5 0) 6 0) c0 set may).1 4).toNatClampNeg ≤ 4) : MI l D (TY cI cJ cO) yX8_reach wsX8_reach (RM 11) [.ref h, .int set, .int may, .int n, .int what] [(h, oX8 r G), ((r 0), oX5 S), ((r 1), oX0 F), ((r 2), oX2 (r 0) (r 1) P), ((r 8), oX4 pa tb fw ch Z), (pa, .inl (cO, 6, .inr (.inr (.inr (.inr (fun k => some (pr k))))))), (tb, .inl (cJ, 2048, .inr (.inl t0))), (fw, .inl (cI, 5, .inl w0)), (ch, .inl (cI, 4, .inl c0)), ((pr 0), oX2 (r 0) (r 1) p0), ((pr 1), oX2 (r 0) (r 1) p1), ((pr 2), oX2 (r 0) (r 1) p2), ((pr 3), oX2 (r 0) (r 1) p3), ((pr 4), oX2 (r 0) (r 1) p4), ((pr 5), oX2 (r 0) (r 1) p5)] ((sp_X8_reach G S F P Z t0 w0 c0 p0 p1 p2 p3 p4 p5 set may n what).1) [(h, oX8 r G), ((r 0), oX5 S), ((r 1), oX0 F), ((r 2), oX2 (r 0) (r 1) P), ((r 8), oX4 pa tb fw ch ((sp_X8_reach G S F P Z t0 w0 c0 p0 p1 p2 p3 p4 p5 set may n what).2.1)), (pa, .inl (cO, 6, .inr (.inr (.inr (.inr (fun k => some (pr k))))))), (tb, .inl (cJ, 2048, .inr (.inl ((sp_X8_reach G S F P Z t0 w0 c0 p0 p1 p2 p3 p4 p5 set may n what).2.2.1)))), (fw, .inl (cI, 5, .inl ((sp_X8_reach G S F P Z t0 w0 c0 p0 p1 p2 p3 p4 p5 set may n what).2.2.2.1))), (ch, .inl (cI, 4, .inl ((sp_X8_reach G S F P Z t0 w0 c0 p0 p1 p2 p3 p4 p5 set may n what).2.2.2.2.1))), ((pr 0), oX2 (r 0) (r 1) ((sp_X8_reach G S F P Z t0 w0 c0 p0 p1 p2 p3 p4 p5 set may n what).2.2.2.2.2.1)), ((pr 1), oX2 (r 0) (r 1) ((sp_X8_reach G S F P Z t0 w0 c0 p0 p1 p2 p3 p4 p5 set may n what).2.2.2.2.2.2.1)), ((pr 2), oX2 (r 0) (r 1) ((sp_X8_reach G S F P Z t0 w0 c0 p0 p1 p2 p3 p4 p5 set may n what).2.2.2.2.2.2.2.1)), ((pr 3), oX2 (r 0) (r 1) ((sp_X8_reach G S F P Z t0 w0 c0 p0 p1 p2 p3 p4 p5 set may n what).2.2.2.2.2.2.2.2.1)), ((pr 4), oX2 (r 0) (r 1) ((sp_X8_reach G S F P Z t0 w0 c0 p0 p1 p2 p3 p4 p5 set may n what).2.2.2.2.2.2.2.2.2.1)), ((pr 5), oX2 (r 0) (r 1) ((sp_X8_reach G S F P Z t0 w0 c0 p0 p1 p2 p3 p4 p5 set may n what).2.2.2.2.2.2.2.2.2.2))] := by
  refine k_entI (cc := cX8_reach) (maxL := 5) (lv := [(0, .ref h), (1, .int set), (2, .int may), (3, .int n), (4, .int what)]) (by decide +kernel) rfl (Nat.le_of_ble_eq_true rfl) rfl ?_
  intro p e s m below meth c A Q ls hx hb hml hts hown hA hS hP hD hK hN hl hret
  have hown : s.vm.findClass RX8 = some m.cls := hown
  have hi8 : ∀ w ∈ wsX80, w ∈ wsX8_reach := fun w h => List.mem_cons_of_mem _ (List.mem_append_left _ (List.mem_append_left _ (List.mem_append_left _ (List.mem_append_left _ (List.mem_append_right _ h)))))
  have hf28 := hts (.fieldLink RX8 28 "PressGuard" "press" "LPressGuard$Press;") (by decide +kernel)
  have hf68 := hts (.fieldLink RX8 68 "PressGuard" "search" "LPressGuard$Search;") (by decide +kernel)
  refine lv_iload_n hx hb dX8_reach_0 rfl (lv_at hl 1 rfl) ?_
  refine k_Si ⟨hx, hb, hml, hown, hts⟩ (c_X8_isSet l D cI cJ cO set) (va_cwS 1 hts gX8_reach_X8_isSet rfl rfl rfl (by decide +kernel) ⟨Nat.le_of_ble_eq_true rfl, Nat.le_of_ble_eq_true rfl⟩) hK hN hP hD hS hA [] rfl rfl rfl (ws' := [(h, oX8 r G), ((r 0), oX5 S), ((r 1), oX0 F), ((r 2), oX2 (r 0) (r 1) P), ((r 8), oX4 pa tb fw ch Z), (pa, .inl (cO, 6, .inr (.inr (.inr (.inr (fun k => some (pr k))))))), (tb, .inl (cJ, 2048, .inr (.inl t0))), (fw, .inl (cI, 5, .inl w0)), (ch, .inl (cI, 4, .inl c0)), ((pr 0), oX2 (r 0) (r 1) p0), ((pr 1), oX2 (r 0) (r 1) p1), ((pr 2), oX2 (r 0) (r 1) p2), ((pr 3), oX2 (r 0) (r 1) p3), ((pr 4), oX2 (r 0) (r 1) p4), ((pr 5), oX2 (r 0) (r 1) p5)]) rfl rfl hl.1 rfl (Nat.le_of_ble_eq_true rfl) dX8_reach_1 ⟨Nat.le_refl _, Nat.le_refl _⟩ (fun H locs hP hD hS => ?_)
  refine lv_if_eq (tgt := 31) hx hb dX8_reach_4 (by decide) (fun c_1 => ?_) (fun c_1 => ?_)
  · skip
    refine lv_bipush (v := (-2)) hx hb dX8_reach_31 (by decide +kernel) ?_
    have hsp : sp_X8_reach G S F P Z t0 w0 c0 p0 p1 p2 p3 p4 p5 set may n what = ((-2), Z, t0, w0, c0, p0, p1, p2, p3, p4, p5) := by simp only [sp_X8_reach, if_pos c_1]
    exact hret _ _ _ _ _ (by rw [hsp]) rfl (by rw [hsp]; exact hP) hS dX8_reach_33
  · skip
    refine lv_iload_n hx hb dX8_reach_7 rfl (lv_at hl 2 rfl) ?_
    refine k_Si ⟨hx, hb, hml, hown, hts⟩ (c_X8_isSet l D cI cJ cO may) (va_cwS 1 hts gX8_reach_X8_isSet rfl rfl rfl (by decide +kernel) ⟨Nat.le_of_ble_eq_true rfl, Nat.le_of_ble_eq_true rfl⟩) hK hN hP hD hS hA [] rfl rfl rfl (ws' := [(h, oX8 r G), ((r 0), oX5 S), ((r 1), oX0 F), ((r 2), oX2 (r 0) (r 1) P), ((r 8), oX4 pa tb fw ch Z), (pa, .inl (cO, 6, .inr (.inr (.inr (.inr (fun k => some (pr k))))))), (tb, .inl (cJ, 2048, .inr (.inl t0))), (fw, .inl (cI, 5, .inl w0)), (ch, .inl (cI, 4, .inl c0)), ((pr 0), oX2 (r 0) (r 1) p0), ((pr 1), oX2 (r 0) (r 1) p1), ((pr 2), oX2 (r 0) (r 1) p2), ((pr 3), oX2 (r 0) (r 1) p3), ((pr 4), oX2 (r 0) (r 1) p4), ((pr 5), oX2 (r 0) (r 1) p5)]) rfl rfl hl.1 rfl (Nat.le_of_ble_eq_true rfl) dX8_reach_8 ⟨Nat.le_refl _, Nat.le_refl _⟩ (fun H locs hP hD hS => ?_)
    refine lv_if_eq (tgt := 31) hx hb dX8_reach_11 (by decide) (fun c_2 => ?_) (fun c_2 => ?_)
    · skip
      refine lv_bipush (v := (-2)) hx hb dX8_reach_31 (by decide +kernel) ?_
      have hsp : sp_X8_reach G S F P Z t0 w0 c0 p0 p1 p2 p3 p4 p5 set may n what = ((-2), Z, t0, w0, c0, p0, p1, p2, p3, p4, p5) := by simp only [sp_X8_reach, if_neg c_1, if_pos c_2]
      exact hret _ _ _ _ _ (by rw [hsp]) rfl (by rw [hsp]; exact hP) hS dX8_reach_33
    · skip
      refine lv_iload_n hx hb dX8_reach_14 rfl (lv_at hl 2 rfl) ?_
      refine k_Si ⟨hx, hb, hml, hown, hts⟩ (c_J6_bitCount_0f7a4 l D cI cJ cO may) (va_cwS 1 hts gX8_reach_J6_bitCount_0f7a4 rfl rfl rfl (by decide +kernel) ⟨Nat.le_of_ble_eq_true rfl, Nat.le_of_ble_eq_true rfl⟩) hK hN hP hD hS hA [] rfl rfl rfl (ws' := [(h, oX8 r G), ((r 0), oX5 S), ((r 1), oX0 F), ((r 2), oX2 (r 0) (r 1) P), ((r 8), oX4 pa tb fw ch Z), (pa, .inl (cO, 6, .inr (.inr (.inr (.inr (fun k => some (pr k))))))), (tb, .inl (cJ, 2048, .inr (.inl t0))), (fw, .inl (cI, 5, .inl w0)), (ch, .inl (cI, 4, .inl c0)), ((pr 0), oX2 (r 0) (r 1) p0), ((pr 1), oX2 (r 0) (r 1) p1), ((pr 2), oX2 (r 0) (r 1) p2), ((pr 3), oX2 (r 0) (r 1) p3), ((pr 4), oX2 (r 0) (r 1) p4), ((pr 5), oX2 (r 0) (r 1) p5)]) rfl rfl hl.1 rfl (Nat.le_of_ble_eq_true rfl) dX8_reach_15 ⟨Nat.le_refl _, Nat.le_refl _⟩ (fun H locs hP hD hS => ?_)
      refine lv_iconst (v := 2) hx hb dX8_reach_18 (by decide +kernel) ?_
      refine lv_icmp_gt (tgt := 31) hx hb dX8_reach_19 (by decide) (fun c_3 => ?_) (fun c_3 => ?_)
      · skip
        refine lv_bipush (v := (-2)) hx hb dX8_reach_31 (by decide +kernel) ?_
        have hsp : sp_X8_reach G S F P Z t0 w0 c0 p0 p1 p2 p3 p4 p5 set may n what = ((-2), Z, t0, w0, c0, p0, p1, p2, p3, p4, p5) := by simp only [sp_X8_reach, if_neg c_1, if_neg c_2, if_pos c_3]
        exact hret _ _ _ _ _ (by rw [hsp]) rfl (by rw [hsp]; exact hP) hS dX8_reach_33
      · skip
        refine lv_iload_n hx hb dX8_reach_22 rfl (lv_at hl 3 rfl) ?_
        refine lv_iconst (v := 0) hx hb dX8_reach_23 (by decide +kernel) ?_
        refine lv_iconst (v := 5) hx hb dX8_reach_24 (by decide +kernel) ?_
        refine k_Si ⟨hx, hb, hml, hown, hts⟩ (c_X8_within l D cI cJ cO n 0 5) (va_cwS 3 hts gX8_reach_X8_within rfl rfl rfl (by decide +kernel) ⟨Nat.le_of_ble_eq_true rfl, Nat.le_of_ble_eq_true rfl⟩) hK hN hP hD hS hA [] rfl rfl rfl (ws' := [(h, oX8 r G), ((r 0), oX5 S), ((r 1), oX0 F), ((r 2), oX2 (r 0) (r 1) P), ((r 8), oX4 pa tb fw ch Z), (pa, .inl (cO, 6, .inr (.inr (.inr (.inr (fun k => some (pr k))))))), (tb, .inl (cJ, 2048, .inr (.inl t0))), (fw, .inl (cI, 5, .inl w0)), (ch, .inl (cI, 4, .inl c0)), ((pr 0), oX2 (r 0) (r 1) p0), ((pr 1), oX2 (r 0) (r 1) p1), ((pr 2), oX2 (r 0) (r 1) p2), ((pr 3), oX2 (r 0) (r 1) p3), ((pr 4), oX2 (r 0) (r 1) p4), ((pr 5), oX2 (r 0) (r 1) p5)]) rfl rfl hl.1 rfl (Nat.le_of_ble_eq_true rfl) dX8_reach_25 ⟨Nat.le_refl _, Nat.le_refl _⟩ (fun H locs hP hD hS => ?_)
        refine lv_if_ne (tgt := 34) hx hb dX8_reach_28 (by decide) (fun c_4 => ?_) (fun c_4 => ?_)
        · skip
          refine lv_iload hx hb dX8_reach_34 (lv_at hl 4 rfl) ?_
          refine lv_iconst (v := 0) hx hb dX8_reach_36 (by decide +kernel) ?_
          refine lv_iconst (v := 1) hx hb dX8_reach_37 (by decide +kernel) ?_
          refine k_Si ⟨hx, hb, hml, hown, hts⟩ (c_X8_within l D cI cJ cO what 0 1) (va_cwS 3 hts gX8_reach_X8_within rfl rfl rfl (by decide +kernel) ⟨Nat.le_of_ble_eq_true rfl, Nat.le_of_ble_eq_true rfl⟩) hK hN hP hD hS hA [] rfl rfl rfl (ws' := [(h, oX8 r G), ((r 0), oX5 S), ((r 1), oX0 F), ((r 2), oX2 (r 0) (r 1) P), ((r 8), oX4 pa tb fw ch Z), (pa, .inl (cO, 6, .inr (.inr (.inr (.inr (fun k => some (pr k))))))), (tb, .inl (cJ, 2048, .inr (.inl t0))), (fw, .inl (cI, 5, .inl w0)), (ch, .inl (cI, 4, .inl c0)), ((pr 0), oX2 (r 0) (r 1) p0), ((pr 1), oX2 (r 0) (r 1) p1), ((pr 2), oX2 (r 0) (r 1) p2), ((pr 3), oX2 (r 0) (r 1) p3), ((pr 4), oX2 (r 0) (r 1) p4), ((pr 5), oX2 (r 0) (r 1) p5)]) rfl rfl hl.1 rfl (Nat.le_of_ble_eq_true rfl) dX8_reach_38 ⟨Nat.le_refl _, Nat.le_refl _⟩ (fun H locs hP hD hS => ?_)
          refine lv_if_ne (tgt := 59) hx hb dX8_reach_41 (by decide) (fun c_5 => ?_) (fun c_5 => ?_)
          · skip
            refine lv_aload_n hx hb dX8_reach_59 rfl (lv_at hl 0 rfl) ?_
            refine k_get hx hb hts hi8 hown hK hP 0 rfl rfl 8 (by decide) hf68 (.ref (r 8)) rfl dX8_reach_60 ?_
            refine lv_aload_n hx hb dX8_reach_63 rfl (lv_at hl 0 rfl) ?_
            refine k_get hx hb hts hi8 hown hK hP 0 rfl rfl 2 (by decide) hf28 (.ref (r 2)) rfl dX8_reach_64 ?_
            refine lv_iload_n hx hb dX8_reach_67 rfl (lv_at hl 1 rfl) ?_
            refine lv_iload_n hx hb dX8_reach_68 rfl (lv_at hl 2 rfl) ?_
            refine lv_iload_n hx hb dX8_reach_69 rfl (lv_at hl 3 rfl) ?_
            obtain ⟨Z_6, eZ_6⟩ : ∃ q : Nat → Int32, q = ((sp_X4_run Z t0 w0 c0 p0 p1 p2 p3 p4 p5 S F P set may n).1) := ⟨_, rfl⟩
            obtain ⟨t_7, et_7⟩ : ∃ q : Nat → Int64, q = ((sp_X4_run Z t0 w0 c0 p0 p1 p2 p3 p4 p5 S F P set may n).2.1) := ⟨_, rfl⟩
            obtain ⟨w_8, ew_8⟩ : ∃ q : Nat → Int32, q = ((sp_X4_run Z t0 w0 c0 p0 p1 p2 p3 p4 p5 S F P set may n).2.2.1) := ⟨_, rfl⟩
            obtain ⟨c_9, ec_9⟩ : ∃ q : Nat → Int32, q = ((sp_X4_run Z t0 w0 c0 p0 p1 p2 p3 p4 p5 S F P set may n).2.2.2.1) := ⟨_, rfl⟩
            obtain ⟨p_10, ep_10⟩ : ∃ q : Nat → Int32, q = ((sp_X4_run Z t0 w0 c0 p0 p1 p2 p3 p4 p5 S F P set may n).2.2.2.2.1) := ⟨_, rfl⟩
            obtain ⟨p_11, ep_11⟩ : ∃ q : Nat → Int32, q = ((sp_X4_run Z t0 w0 c0 p0 p1 p2 p3 p4 p5 S F P set may n).2.2.2.2.2.1) := ⟨_, rfl⟩
            obtain ⟨p_12, ep_12⟩ : ∃ q : Nat → Int32, q = ((sp_X4_run Z t0 w0 c0 p0 p1 p2 p3 p4 p5 S F P set may n).2.2.2.2.2.2.1) := ⟨_, rfl⟩
            obtain ⟨p_13, ep_13⟩ : ∃ q : Nat → Int32, q = ((sp_X4_run Z t0 w0 c0 p0 p1 p2 p3 p4 p5 S F P set may n).2.2.2.2.2.2.2.1) := ⟨_, rfl⟩
            obtain ⟨p_14, ep_14⟩ : ∃ q : Nat → Int32, q = ((sp_X4_run Z t0 w0 c0 p0 p1 p2 p3 p4 p5 S F P set may n).2.2.2.2.2.2.2.2.1) := ⟨_, rfl⟩
            obtain ⟨p_15, ep_15⟩ : ∃ q : Nat → Int32, q = ((sp_X4_run Z t0 w0 c0 p0 p1 p2 p3 p4 p5 S F P set may n).2.2.2.2.2.2.2.2.2) := ⟨_, rfl⟩
            refine k_Vv ⟨hx, hb, hml, hown, hts⟩ (c_X4_run l D cI cJ cO (r 8) (r 2) pa tb fw ch pr (r 0) (r 1) Z t0 w0 c0 p0 p1 p2 p3 p4 p5 S F P set may n (hc0 c_2) (hc4 c_2)) (ci := 4) (q0 := 4) rfl rfl (cwV 4 hts gX8_reach_X4_run rfl rfl rfl (by decide +kernel) ⟨Nat.le_of_ble_eq_true rfl, Nat.le_of_ble_eq_true rfl⟩) hK hN hP hD hS hA [4, 5, 6, 7, 8, 9, 10, 11, 12, 13, 14, 1, 2, 3] rfl rfl rfl (ws' := [(h, oX8 r G), ((r 0), oX5 S), ((r 1), oX0 F), ((r 2), oX2 (r 0) (r 1) P), ((r 8), oX4 pa tb fw ch Z_6), (pa, .inl (cO, 6, .inr (.inr (.inr (.inr (fun k => some (pr k))))))), (tb, .inl (cJ, 2048, .inr (.inl t_7))), (fw, .inl (cI, 5, .inl w_8)), (ch, .inl (cI, 4, .inl c_9)), ((pr 0), oX2 (r 0) (r 1) p_10), ((pr 1), oX2 (r 0) (r 1) p_11), ((pr 2), oX2 (r 0) (r 1) p_12), ((pr 3), oX2 (r 0) (r 1) p_13), ((pr 4), oX2 (r 0) (r 1) p_14), ((pr 5), oX2 (r 0) (r 1) p_15)]) (by rw [eZ_6, et_7, ew_8, ec_9, ep_10, ep_11, ep_12, ep_13, ep_14, ep_15]; rfl) rfl hl.1 rfl (Nat.le_of_ble_eq_true rfl) dX8_reach_70 ⟨Nat.le_refl _, Nat.le_refl _⟩ (fun H locs hP hD hS => ?_)
            refine lv_aload_n hx hb dX8_reach_73 rfl (lv_at hl 0 rfl) ?_
            refine k_get hx hb hts hi8 hown hK hP 0 rfl rfl 8 (by decide) hf68 (.ref (r 8)) rfl dX8_reach_74 ?_
            refine lv_iload hx hb dX8_reach_77 (lv_at hl 4 rfl) ?_
            refine k_Vi ⟨hx, hb, hml, hown, hts⟩ (c_X4_part l D cI cJ cO (r 8) pa tb fw ch Z_6 w_8 what) (ci := 4) (q0 := 4) rfl rfl (cwV 1 hts gX8_reach_X4_part rfl rfl rfl (by decide +kernel) ⟨Nat.le_of_ble_eq_true rfl, Nat.le_of_ble_eq_true rfl⟩) hK hN hP hD hS hA [4, 7] rfl rfl rfl (ws' := [(h, oX8 r G), ((r 0), oX5 S), ((r 1), oX0 F), ((r 2), oX2 (r 0) (r 1) P), ((r 8), oX4 pa tb fw ch Z_6), (pa, .inl (cO, 6, .inr (.inr (.inr (.inr (fun k => some (pr k))))))), (tb, .inl (cJ, 2048, .inr (.inl t_7))), (fw, .inl (cI, 5, .inl w_8)), (ch, .inl (cI, 4, .inl c_9)), ((pr 0), oX2 (r 0) (r 1) p_10), ((pr 1), oX2 (r 0) (r 1) p_11), ((pr 2), oX2 (r 0) (r 1) p_12), ((pr 3), oX2 (r 0) (r 1) p_13), ((pr 4), oX2 (r 0) (r 1) p_14), ((pr 5), oX2 (r 0) (r 1) p_15)]) rfl rfl hl.1 rfl (Nat.le_of_ble_eq_true rfl) dX8_reach_79 ⟨Nat.le_refl _, Nat.le_refl _⟩ (fun H locs hP hD hS => ?_)
            have hsp : sp_X8_reach G S F P Z t0 w0 c0 p0 p1 p2 p3 p4 p5 set may n what = ((sp_X4_part Z_6 w_8 what), Z_6, t_7, w_8, c_9, p_10, p_11, p_12, p_13, p_14, p_15) := sq_X8_reach_1 G S F P Z t0 w0 c0 p0 p1 p2 p3 p4 p5 set may n what Z_6 t_7 w_8 c_9 p_10 p_11 p_12 p_13 p_14 p_15 eZ_6 et_7 ew_8 ec_9 ep_10 ep_11 ep_12 ep_13 ep_14 ep_15 c_1 c_2 c_3 c_4 c_5
            exact hret _ _ _ _ _ (by rw [hsp]) rfl (by rw [hsp]; exact hP) hS dX8_reach_82
          · skip
            refine lv_iload hx hb dX8_reach_44 (lv_at hl 4 rfl) ?_
            refine lv_bipush (v := 10) hx hb dX8_reach_46 (by decide +kernel) ?_
            refine lv_bipush (v := 14) hx hb dX8_reach_48 (by decide +kernel) ?_
            refine k_Si ⟨hx, hb, hml, hown, hts⟩ (c_X8_within l D cI cJ cO what 10 14) (va_cwS 3 hts gX8_reach_X8_within rfl rfl rfl (by decide +kernel) ⟨Nat.le_of_ble_eq_true rfl, Nat.le_of_ble_eq_true rfl⟩) hK hN hP hD hS hA [] rfl rfl rfl (ws' := [(h, oX8 r G), ((r 0), oX5 S), ((r 1), oX0 F), ((r 2), oX2 (r 0) (r 1) P), ((r 8), oX4 pa tb fw ch Z), (pa, .inl (cO, 6, .inr (.inr (.inr (.inr (fun k => some (pr k))))))), (tb, .inl (cJ, 2048, .inr (.inl t0))), (fw, .inl (cI, 5, .inl w0)), (ch, .inl (cI, 4, .inl c0)), ((pr 0), oX2 (r 0) (r 1) p0), ((pr 1), oX2 (r 0) (r 1) p1), ((pr 2), oX2 (r 0) (r 1) p2), ((pr 3), oX2 (r 0) (r 1) p3), ((pr 4), oX2 (r 0) (r 1) p4), ((pr 5), oX2 (r 0) (r 1) p5)]) rfl rfl hl.1 rfl (Nat.le_of_ble_eq_true rfl) dX8_reach_50 ⟨Nat.le_refl _, Nat.le_refl _⟩ (fun H locs hP hD hS => ?_)
            refine lv_if_ne (tgt := 59) hx hb dX8_reach_53 (by decide) (fun c_16 => ?_) (fun c_16 => ?_)
            · skip
              refine lv_aload_n hx hb dX8_reach_59 rfl (lv_at hl 0 rfl) ?_
              refine k_get hx hb hts hi8 hown hK hP 0 rfl rfl 8 (by decide) hf68 (.ref (r 8)) rfl dX8_reach_60 ?_
              refine lv_aload_n hx hb dX8_reach_63 rfl (lv_at hl 0 rfl) ?_
              refine k_get hx hb hts hi8 hown hK hP 0 rfl rfl 2 (by decide) hf28 (.ref (r 2)) rfl dX8_reach_64 ?_
              refine lv_iload_n hx hb dX8_reach_67 rfl (lv_at hl 1 rfl) ?_
              refine lv_iload_n hx hb dX8_reach_68 rfl (lv_at hl 2 rfl) ?_
              refine lv_iload_n hx hb dX8_reach_69 rfl (lv_at hl 3 rfl) ?_
              obtain ⟨Z_17, eZ_17⟩ : ∃ q : Nat → Int32, q = ((sp_X4_run Z t0 w0 c0 p0 p1 p2 p3 p4 p5 S F P set may n).1) := ⟨_, rfl⟩
              obtain ⟨t_18, et_18⟩ : ∃ q : Nat → Int64, q = ((sp_X4_run Z t0 w0 c0 p0 p1 p2 p3 p4 p5 S F P set may n).2.1) := ⟨_, rfl⟩
              obtain ⟨w_19, ew_19⟩ : ∃ q : Nat → Int32, q = ((sp_X4_run Z t0 w0 c0 p0 p1 p2 p3 p4 p5 S F P set may n).2.2.1) := ⟨_, rfl⟩
              obtain ⟨c_20, ec_20⟩ : ∃ q : Nat → Int32, q = ((sp_X4_run Z t0 w0 c0 p0 p1 p2 p3 p4 p5 S F P set may n).2.2.2.1) := ⟨_, rfl⟩
              obtain ⟨p_21, ep_21⟩ : ∃ q : Nat → Int32, q = ((sp_X4_run Z t0 w0 c0 p0 p1 p2 p3 p4 p5 S F P set may n).2.2.2.2.1) := ⟨_, rfl⟩
              obtain ⟨p_22, ep_22⟩ : ∃ q : Nat → Int32, q = ((sp_X4_run Z t0 w0 c0 p0 p1 p2 p3 p4 p5 S F P set may n).2.2.2.2.2.1) := ⟨_, rfl⟩
              obtain ⟨p_23, ep_23⟩ : ∃ q : Nat → Int32, q = ((sp_X4_run Z t0 w0 c0 p0 p1 p2 p3 p4 p5 S F P set may n).2.2.2.2.2.2.1) := ⟨_, rfl⟩
              obtain ⟨p_24, ep_24⟩ : ∃ q : Nat → Int32, q = ((sp_X4_run Z t0 w0 c0 p0 p1 p2 p3 p4 p5 S F P set may n).2.2.2.2.2.2.2.1) := ⟨_, rfl⟩
              obtain ⟨p_25, ep_25⟩ : ∃ q : Nat → Int32, q = ((sp_X4_run Z t0 w0 c0 p0 p1 p2 p3 p4 p5 S F P set may n).2.2.2.2.2.2.2.2.1) := ⟨_, rfl⟩
              obtain ⟨p_26, ep_26⟩ : ∃ q : Nat → Int32, q = ((sp_X4_run Z t0 w0 c0 p0 p1 p2 p3 p4 p5 S F P set may n).2.2.2.2.2.2.2.2.2) := ⟨_, rfl⟩
              refine k_Vv ⟨hx, hb, hml, hown, hts⟩ (c_X4_run l D cI cJ cO (r 8) (r 2) pa tb fw ch pr (r 0) (r 1) Z t0 w0 c0 p0 p1 p2 p3 p4 p5 S F P set may n (hc0 c_2) (hc4 c_2)) (ci := 4) (q0 := 4) rfl rfl (cwV 4 hts gX8_reach_X4_run rfl rfl rfl (by decide +kernel) ⟨Nat.le_of_ble_eq_true rfl, Nat.le_of_ble_eq_true rfl⟩) hK hN hP hD hS hA [4, 5, 6, 7, 8, 9, 10, 11, 12, 13, 14, 1, 2, 3] rfl rfl rfl (ws' := [(h, oX8 r G), ((r 0), oX5 S), ((r 1), oX0 F), ((r 2), oX2 (r 0) (r 1) P), ((r 8), oX4 pa tb fw ch Z_17), (pa, .inl (cO, 6, .inr (.inr (.inr (.inr (fun k => some (pr k))))))), (tb, .inl (cJ, 2048, .inr (.inl t_18))), (fw, .inl (cI, 5, .inl w_19)), (ch, .inl (cI, 4, .inl c_20)), ((pr 0), oX2 (r 0) (r 1) p_21), ((pr 1), oX2 (r 0) (r 1) p_22), ((pr 2), oX2 (r 0) (r 1) p_23), ((pr 3), oX2 (r 0) (r 1) p_24), ((pr 4), oX2 (r 0) (r 1) p_25), ((pr 5), oX2 (r 0) (r 1) p_26)]) (by rw [eZ_17, et_18, ew_19, ec_20, ep_21, ep_22, ep_23, ep_24, ep_25, ep_26]; rfl) rfl hl.1 rfl (Nat.le_of_ble_eq_true rfl) dX8_reach_70 ⟨Nat.le_refl _, Nat.le_refl _⟩ (fun H locs hP hD hS => ?_)
              refine lv_aload_n hx hb dX8_reach_73 rfl (lv_at hl 0 rfl) ?_
              refine k_get hx hb hts hi8 hown hK hP 0 rfl rfl 8 (by decide) hf68 (.ref (r 8)) rfl dX8_reach_74 ?_
              refine lv_iload hx hb dX8_reach_77 (lv_at hl 4 rfl) ?_
              refine k_Vi ⟨hx, hb, hml, hown, hts⟩ (c_X4_part l D cI cJ cO (r 8) pa tb fw ch Z_17 w_19 what) (ci := 4) (q0 := 4) rfl rfl (cwV 1 hts gX8_reach_X4_part rfl rfl rfl (by decide +kernel) ⟨Nat.le_of_ble_eq_true rfl, Nat.le_of_ble_eq_true rfl⟩) hK hN hP hD hS hA [4, 7] rfl rfl rfl (ws' := [(h, oX8 r G), ((r 0), oX5 S), ((r 1), oX0 F), ((r 2), oX2 (r 0) (r 1) P), ((r 8), oX4 pa tb fw ch Z_17), (pa, .inl (cO, 6, .inr (.inr (.inr (.inr (fun k => some (pr k))))))), (tb, .inl (cJ, 2048, .inr (.inl t_18))), (fw, .inl (cI, 5, .inl w_19)), (ch, .inl (cI, 4, .inl c_20)), ((pr 0), oX2 (r 0) (r 1) p_21), ((pr 1), oX2 (r 0) (r 1) p_22), ((pr 2), oX2 (r 0) (r 1) p_23), ((pr 3), oX2 (r 0) (r 1) p_24), ((pr 4), oX2 (r 0) (r 1) p_25), ((pr 5), oX2 (r 0) (r 1) p_26)]) rfl rfl hl.1 rfl (Nat.le_of_ble_eq_true rfl) dX8_reach_79 ⟨Nat.le_refl _, Nat.le_refl _⟩ (fun H locs hP hD hS => ?_)
              have hsp : sp_X8_reach G S F P Z t0 w0 c0 p0 p1 p2 p3 p4 p5 set may n what = ((sp_X4_part Z_17 w_19 what), Z_17, t_18, w_19, c_20, p_21, p_22, p_23, p_24, p_25, p_26) := sq_X8_reach_2 G S F P Z t0 w0 c0 p0 p1 p2 p3 p4 p5 set may n what Z_17 t_18 w_19 c_20 p_21 p_22 p_23 p_24 p_25 p_26 eZ_17 et_18 ew_19 ec_20 ep_21 ep_22 ep_23 ep_24 ep_25 ep_26 c_1 c_2 c_3 c_4 c_5 c_16
              exact hret _ _ _ _ _ (by rw [hsp]) rfl (by rw [hsp]; exact hP) hS dX8_reach_82
            · skip
              refine lv_bipush (v := (-2)) hx hb dX8_reach_56 (by decide +kernel) ?_
              have hsp : sp_X8_reach G S F P Z t0 w0 c0 p0 p1 p2 p3 p4 p5 set may n what = ((-2), Z, t0, w0, c0, p0, p1, p2, p3, p4, p5) := by simp only [sp_X8_reach, if_neg c_1, if_neg c_2, if_neg c_3, if_neg c_4, if_pos c_5, if_pos c_16]
              exact hret _ _ _ _ _ (by rw [hsp]) rfl (by rw [hsp]; exact hP) hS dX8_reach_58
        · skip
          refine lv_bipush (v := (-2)) hx hb dX8_reach_31 (by decide +kernel) ?_
          have hsp : sp_X8_reach G S F P Z t0 w0 c0 p0 p1 p2 p3 p4 p5 set may n what = ((-2), Z, t0, w0, c0, p0, p1, p2, p3, p4, p5) := by simp only [sp_X8_reach, if_neg c_1, if_neg c_2, if_neg c_3, if_pos c_4]
          exact hret _ _ _ _ _ (by rw [hsp]) rfl (by rw [hsp]; exact hP) hS dX8_reach_33
