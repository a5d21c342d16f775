def bd_X9_goesAll_46 (a5 : Nat → Int32) (a6 : Nat → Int32) (set : Int32) (may : Int32) (i_1 : Nat) (x_2 : (Nat → Int32) × Int64 × (Nat → Int32) × (Nat → Int64) × (Nat → Int32)) (i_7 : Nat) (x_8 : (Nat → Int32) × (Nat → Int32) × (Nat → Int64) × (Nat → Int32) × Int32) : (Nat → Int32) × (Nat → Int32) × (Nat → Int64) × (Nat → Int32) × Int32 :=
  (let M_9 : Nat → Int32 := ((sp_X9_tickBy (x_8.1) (x_2.2.1) a5 a6 (x_8.2.1) (sp_X9_chosen set may (((nI i_1) >>> ((2 * (nI i_7)) &&& 31)) &&& 3))).1); (let a_10 : Nat → Int32 := ((sp_X9_tickBy (x_8.1) (x_2.2.1) a5 a6 (x_8.2.1) (sp_X9_chosen set may (((nI i_1) >>> ((2 * (nI i_7)) &&& 31)) &&& 3))).2); (let M_11 : Nat → Int32 := ((sp_X9_comes M_9 (x_2.2.1) a_10 (x_8.2.2.1) (x_8.2.2.2.1) ((nI i_7) + 1)).1); (let a_12 : Nat → Int64 := ((sp_X9_comes M_9 (x_2.2.1) a_10 (x_8.2.2.1) (x_8.2.2.2.1) ((nI i_7) + 1)).2.1); (let a_13 : Nat → Int32 := ((sp_X9_comes M_9 (x_2.2.1) a_10 (x_8.2.2.1) (x_8.2.2.2.1) ((nI i_7) + 1)).2.2); (M_11, a_10, a_12, a_13, ((x_8.2.2.2.2) + (M_9 21))))))))
def bd_X9_goesAll_25 (M : Nat → Int32) (L : Int64) (a5 : Nat → Int32) (a6 : Nat → Int32) (a12 : Nat → Int32) (set : Int32) (may : Int32) (n : Int32) (i_1 : Nat) (x_2 : (Nat → Int32) × Int64 × (Nat → Int32) × (Nat → Int64) × (Nat → Int32)) : (Nat → Int32) × Int64 × (Nat → Int32) × (Nat → Int64) × (Nat → Int32) :=
  (let M_3 : Nat → Int32 := ((sp_X9_comes (x_2.1) (x_2.2.1) (x_2.2.2.1) (x_2.2.2.2.1) (x_2.2.2.2.2) 0).1); (let a_4 : Nat → Int64 := ((sp_X9_comes (x_2.1) (x_2.2.1) (x_2.2.2.1) (x_2.2.2.2.1) (x_2.2.2.2.2) 0).2.1); (let a_5 : Nat → Int32 := ((sp_X9_comes (x_2.1) (x_2.2.1) (x_2.2.2.1) (x_2.2.2.2.1) (x_2.2.2.2.2) 0).2.2); (let x_7 : (Nat → Int32) × (Nat → Int32) × (Nat → Int64) × (Nat → Int32) × Int32 := lp (bd_X9_goesAll_46 a5 a6 set may i_1 x_2) n.toNatClampNeg (M_3, (x_2.2.2.1), a_4, a_5, 0); (let z_9 : Int32 := (if (x_7.2.2.2.2) ≤ ((x_7.1) 39) then ((x_7.1) 39) else (x_7.2.2.2.2)); (let M_11 : Nat → Int32 := ((sp_X9_becomes (upd (x_7.1) 39 z_9) (x_2.2.1) (x_7.2.1) (sp_X9_stateOf M L a12) (M 18)).1); (let L_12 : Int64 := ((sp_X9_becomes (upd (x_7.1) 39 z_9) (x_2.2.1) (x_7.2.1) (sp_X9_stateOf M L a12) (M 18)).2.1); (let a_13 : Nat → Int32 := ((sp_X9_becomes (upd (x_7.1) 39 z_9) (x_2.2.1) (x_7.2.1) (sp_X9_stateOf M L a12) (M 18)).2.2); (M_11, L_12, a_13, (x_7.2.2.1), (x_7.2.2.2.1))))))))))
def sp_X9_goesAll (M : Nat → Int32) (L : Int64) (a5 : Nat → Int32) (a6 : Nat → Int32) (a12 : Nat → Int32) (a36 : Nat → Int64) (a37 : Nat → Int32) (set : Int32) (may : Int32) (n : Int32) : (Nat → Int32) × (Int64) × (Nat → Int32) × (Nat → Int64) × (Nat → Int32) :=
  let x_2 : (Nat → Int32) × Int64 × (Nat → Int32) × (Nat → Int64) × (Nat → Int32) := lp (bd_X9_goesAll_25 M L a5 a6 a12 set may n) ((1 <<< ((2 * n) &&& 31)).toNatClampNeg) ((upd (upd M 38 0) 39 0), L, a12, a36, a37)
  ((x_2.1), (x_2.2.1), (x_2.2.2.1), (x_2.2.2.2.1), (x_2.2.2.2.2))
set_option maxRecDepth 100000 in
theorem sq_X9_goesAll_1 (M : Nat → Int32) (L : Int64) (a5 : Nat → Int32) (a6 : Nat → Int32) (a12 : Nat → Int32) (a36 : Nat → Int64) (a37 : Nat → Int32) (set : Int32) (may : Int32) (n : Int32) (x_2 : (Nat → Int32) × Int64 × (Nat → Int32) × (Nat → Int64) × (Nat → Int32)) (ex_2 : x_2 = lp (bd_X9_goesAll_25 M L a5 a6 a12 set may n) ((1 <<< ((2 * n) &&& 31)).toNatClampNeg) ((upd (upd M 38 0) 39 0), L, a12, a36, a37)) : sp_X9_goesAll M L a5 a6 a12 a36 a37 set may n = ((x_2.1), (x_2.2.1), (x_2.2.2.1), (x_2.2.2.2.1), (x_2.2.2.2.2)) := by subst ex_2; rfl
set_option maxHeartbeats 4000000 in
set_option maxRecDepth 100000 in
theorem c_X9_goesAll (l : Launch) (D : va_G) (cI cJ cO : ClassId) (h : Nat) (r : Nat → Nat) (M : Nat → Int32) (L : Int64) (a5 : Nat → Int32) (a6 : Nat → Int32) (a12 : Nat → Int32) (a36 : Nat → Int64) (a37 : Nat → Int32) (set : Int32) (may : Int32) (n : Int32) (hsh : ¬ (1 <<< ((2 * n) &&& 31) : Int32) < 0) (hn0 : ¬ n < 0) (hc1 : ∀ i, i < (1 <<< ((2 * n) &&& 31) : Int32).toNatClampNeg → okc (lp (bd_X9_goesAll_25 M L a5 a6 a12 set may n) i ((upd (upd M 38 0) 39 0), L, a12, a36, a37)).1) (hc2 : ∀ i x, i < (1 <<< ((2 * n) &&& 31) : Int32).toNatClampNeg → x = lp (bd_X9_goesAll_25 M L a5 a6 a12 set may n) i ((upd (upd M 38 0) 39 0), L, a12, a36, a37) → ∀ j, j < n.toNatClampNeg → okc (lp (bd_X9_goesAll_46 a5 a6 set may i x) j ((sp_X9_comes (x.1) (x.2.1) (x.2.2.1) (x.2.2.2.1) (x.2.2.2.2) 0).1, (x.2.2.1), (sp_X9_comes (x.1) (x.2.1) (x.2.2.1) (x.2.2.2.1) (x.2.2.2.2) 0).2.1, (sp_X9_comes (x.1) (x.2.1) (x.2.2.1) (x.2.2.2.1) (x.2.2.2.2) 0).2.2, 0)).1) : MV l D (TY cI cJ cO) yX9_goesAll wsX9_goesAll (RM 3) [.ref h, .int set, .int may, .int n] [(h, oX9 r M L), ((r 5), .inl (cI, 9, .inl a5)), ((r 6), .inl (cI, 2, .inl a6)), ((r 12), .inl (cI, 3, .inl a12)), ((r 36), .inl (cJ, 1400, .inr (.inl a36))), ((r 37), .inl (cI, 1400, .inl a37))] [(h, oX9 r ((sp_X9_goesAll M L a5 a6 a12 a36 a37 set may n).1) ((sp_X9_goesAll M L a5 a6 a12 a36 a37 set may n).2.1)), ((r 5), .inl (cI, 9, .inl a5)), ((r 6), .inl (cI, 2, .inl a6)), ((r 12), .inl (cI, 3, .inl ((sp_X9_goesAll M L a5 a6 a12 a36 a37 set may n).2.2.1))), ((r 36), .inl (cJ, 1400, .inr (.inl ((sp_X9_goesAll M L a5 a6 a12 a36 a37 set may n).2.2.2.1)))), ((r 37), .inl (cI, 1400, .inl ((sp_X9_goesAll M L a5 a6 a12 a36 a37 set may n).2.2.2.2)))] := by
  refine k_entV (cc := cX9_goesAll) (maxL := 10) (lv := [(0, .ref h), (1, .int set), (2, .int may), (3, .int n)]) (by decide +kernel) rfl (Nat.le_of_ble_eq_true rfl) rfl ?_
  intro p e s m below meth c A Q ls hx hb hml hts hown hA hS hP hD hK hN hl hret
  have hown : s.vm.findClass RX9 = some m.cls := hown
  have hi9 : ∀ w ∈ wsX90, w ∈ wsX9_goesAll := fun w h => List.mem_cons_of_mem _ (List.mem_append_right _ h)
  have hf38 := hts (.fieldLink RX9 38 "PressGuardModel" "lockedBy" "I") (by decide +kernel)
  have hf136 := hts (.fieldLink RX9 136 "PressGuardModel" "danger" "I") (by decide +kernel)
  have hf215 := hts (.fieldLink RX9 215 "PressGuardModel" "states" "I") (by decide +kernel)
  have hf218 := hts (.fieldLink RX9 218 "PressGuardModel" "mostDangers" "I") (by decide +kernel)
  refine lv_aload_n hx hb dX9_goesAll_0 rfl (lv_at hl 0 rfl) ?_
  refine k_Vl ⟨hx, hb, hml, hown, hts⟩ (c_X9_stateOf l D cI cJ cO h r M L a12) (ci := 9) (q0 := 0) rfl rfl (cwV 0 hts gX9_goesAll_X9_stateOf rfl rfl rfl (by decide +kernel) ⟨Nat.le_of_ble_eq_true rfl, Nat.le_of_ble_eq_true rfl⟩) hK hN hP hD hS hA [0, 3] rfl rfl rfl (ws' := [(h, oX9 r M L), ((r 5), .inl (cI, 9, .inl a5)), ((r 6), .inl (cI, 2, .inl a6)), ((r 12), .inl (cI, 3, .inl a12)), ((r 36), .inl (cJ, 1400, .inr (.inl a36))), ((r 37), .inl (cI, 1400, .inl a37))]) rfl rfl hl.1 rfl (Nat.le_of_ble_eq_true rfl) dX9_goesAll_1 ⟨Nat.le_refl _, Nat.le_refl _⟩ (fun H locs hP hD hS => ?_)
  refine lv_lstore (lv' := [(4, .long (sp_X9_stateOf M L a12)), (0, .ref h), (1, .int set), (2, .int may), (3, .int n)]) hx hb dX9_goesAll_4 hl (by decide) rfl (fun ls hl => ?_)
  refine lv_aload_n hx hb dX9_goesAll_6 rfl (lv_at hl 1 rfl) ?_
  refine k_get hx hb hts hi9 hown hK hP 0 rfl rfl 18 (by decide) hf38 (.int (M 18)) rfl dX9_goesAll_7 ?_
  refine lv_istore (lv' := [(6, .int (M 18)), (4, .long (sp_X9_stateOf M L a12)), (0, .ref h), (1, .int set), (2, .int may), (3, .int n)]) hx hb dX9_goesAll_10 hl (by decide) rfl (fun ls hl => ?_)
  refine lv_aload_n hx hb dX9_goesAll_12 rfl (lv_at hl 2 rfl) ?_
  refine lv_iconst (v := 0) hx hb dX9_goesAll_13 (by decide +kernel) ?_
  refine k_put hx hb hts hi9 tyX9_ok nmX9 hown hK hP hD hS 0 rfl rfl 38 (by decide) hf215 rfl (.int 0) rfl rfl (Nat.le_of_ble_eq_true rfl) (ws' := [(h, oX9 r (upd M 38 0) L), ((r 5), .inl (cI, 9, .inl a5)), ((r 6), .inl (cI, 2, .inl a6)), ((r 12), .inl (cI, 3, .inl a12)), ((r 36), .inl (cJ, 1400, .inr (.inl a36))), ((r 37), .inl (cI, 1400, .inl a37))]) rfl dX9_goesAll_14 (fun H locs hP hD hS => ?_)
  refine lv_aload_n hx hb dX9_goesAll_17 rfl (lv_at hl 2 rfl) ?_
  refine lv_iconst (v := 0) hx hb dX9_goesAll_18 (by decide +kernel) ?_
  refine k_put hx hb hts hi9 tyX9_ok nmX9 hown hK hP hD hS 0 rfl rfl 39 (by decide) hf218 rfl (.int 0) rfl rfl (Nat.le_of_ble_eq_true rfl) (ws' := [(h, oX9 r (upd (upd M 38 0) 39 0) L), ((r 5), .inl (cI, 9, .inl a5)), ((r 6), .inl (cI, 2, .inl a6)), ((r 12), .inl (cI, 3, .inl a12)), ((r 36), .inl (cJ, 1400, .inr (.inl a36))), ((r 37), .inl (cI, 1400, .inl a37))]) rfl dX9_goesAll_19 (fun H locs hP hD hS => ?_)
  refine lv_iconst (v := 0) hx hb dX9_goesAll_22 (by decide +kernel) ?_
  refine lv_istore (lv' := [(7, .int 0), (6, .int (M 18)), (4, .long (sp_X9_stateOf M L a12)), (0, .ref h), (1, .int set), (2, .int may), (3, .int n)]) hx hb dX9_goesAll_23 hl (by decide) rfl (fun ls hl => ?_)
  obtain ⟨fx_2, hfx_2⟩ : ∃ f : Nat → (Nat → Int32) × Int64 × (Nat → Int32) × (Nat → Int64) × (Nat → Int32) → (Nat → Int32) × Int64 × (Nat → Int32) × (Nat → Int64) × (Nat → Int32), f = (bd_X9_goesAll_25 M L a5 a6 a12 set may n) := ⟨_, rfl⟩
  have hB_x_2 : (1 <<< ((2 * n) &&& 31)) = nI ((1 <<< ((2 * n) &&& 31)).toNatClampNeg) := nI_self hsh
  have hN_x_2 : (1 <<< ((2 * n) &&& 31)).toNatClampNeg < 2 ^ 31 := clamp_lt _
  have Lx_2 : ∀ (nn i_1 : Nat) (x_2 : (Nat → Int32) × Int64 × (Nat → Int32) × (Nat → Int64) × (Nat → Int32)), (1 <<< ((2 * n) &&& 31)).toNatClampNeg + 1 ≤ i_1 + nn → i_1 ≤ (1 <<< ((2 * n) &&& 31)).toNatClampNeg → x_2 = lp fx_2 i_1 ((upd (upd M 38 0) 39 0), L, a12, a36, a37) → ∀ (H : Heap) (locs : List Loc), va_P D vwCl [(h, oX9 r (x_2.1) (x_2.2.1)), ((r 5), .inl (cI, 9, .inl a5)), ((r 6), .inl (cI, 2, .inl a6)), ((r 12), .inl (cI, 3, .inl (x_2.2.2.1))), ((r 36), .inl (cJ, 1400, .inr (.inl (x_2.2.2.2.1)))), ((r 37), .inl (cI, 1400, .inl (x_2.2.2.2.2)))] H → va_D A [(h, oX9 r (x_2.1) (x_2.2.1)), ((r 5), .inl (cI, 9, .inl a5)), ((r 6), .inl (cI, 2, .inl a6)), ((r 12), .inl (cI, 3, .inl (x_2.2.2.1))), ((r 36), .inl (cJ, 1400, .inr (.inl (x_2.2.2.2.1)))), ((r 37), .inl (cI, 1400, .inl (x_2.2.2.2.2)))] → va_S A s.heap H locs → ∀ ls : Array Slot, lv_has ls 10 [(0, .ref h), (1, .int set), (2, .int may), (3, .int n), (4, .long (sp_X9_stateOf M L a12)), (6, .int (M 18)), (7, .int (nI i_1))] → W p l e (RM 3) s m ([.ref h, .int set, .int may, .int n] : List Value).toArray below meth c H locs 0 0 Q (F0 m 25 ls []) := by
    intro nn_x_2
    induction nn_x_2 with
    | zero => intro i_1 x_2 h1 h2; exact absurd h1 (by omega)
    | succ nn_x_2 ih_x_2 =>
      intro i_1 x_2 hn_x_2 hi_i_1 ex_x_2 H locs hP hD hS ls hl
      refine lv_iload hx hb dX9_goesAll_25 (lv_at hl 6 rfl) ?_
      refine lv_iconst (v := 1) hx hb dX9_goesAll_27 (by decide +kernel) ?_
      refine lv_iconst (v := 2) hx hb dX9_goesAll_28 (by decide +kernel) ?_
      refine lv_iload_n hx hb dX9_goesAll_29 rfl (lv_at hl 3 rfl) ?_
      refine lv_imul hx hb dX9_goesAll_30 ?_
      refine lv_ishl hx hb dX9_goesAll_31 ?_
      refine lv_icmp_ge (tgt := 129) hx hb dX9_goesAll_32 (by decide) (fun c_3 => ?_) (fun c_3 => ?_)
      · skip
        have hq_x_2 : i_1 = (1 <<< ((2 * n) &&& 31)).toNatClampNeg := k_eq hB_x_2 c_3 hi_i_1 hN_x_2
        have ex_2 : x_2 = lp (bd_X9_goesAll_25 M L a5 a6 a12 set may n) ((1 <<< ((2 * n) &&& 31)).toNatClampNeg) ((upd (upd M 38 0) 39 0), L, a12, a36, a37) := by rw [ex_x_2, hfx_2, hq_x_2]
        have hsp : sp_X9_goesAll M L a5 a6 a12 a36 a37 set may n = ((x_2.1), (x_2.2.1), (x_2.2.2.1), (x_2.2.2.2.1), (x_2.2.2.2.2)) := sq_X9_goesAll_1 M L a5 a6 a12 a36 a37 set may n x_2 ex_2
        exact hret _ _ _ _ (by rw [hsp]; exact hP) hS dX9_goesAll_129
      · skip
        have hlt_i_1 : i_1 < (1 <<< ((2 * n) &&& 31)).toNatClampNeg := k_lt hB_x_2 c_3 hi_i_1 hN_x_2
        refine lv_iconst (v := 0) hx hb dX9_goesAll_35 (by decide +kernel) ?_
        refine lv_istore (lv' := [(8, .int 0), (0, .ref h), (1, .int set), (2, .int may), (3, .int n), (4, .long (sp_X9_stateOf M L a12)), (6, .int (M 18)), (7, .int (nI i_1))]) hx hb dX9_goesAll_36 hl (by decide) rfl (fun ls hl => ?_)
        refine lv_aload_n hx hb dX9_goesAll_38 rfl (lv_at hl 1 rfl) ?_
        refine lv_iconst (v := 0) hx hb dX9_goesAll_39 (by decide +kernel) ?_
        obtain ⟨M_4, eM_4⟩ : ∃ q : Nat → Int32, q = ((sp_X9_comes (x_2.1) (x_2.2.1) (x_2.2.2.1) (x_2.2.2.2.1) (x_2.2.2.2.2) 0).1) := ⟨_, rfl⟩
        obtain ⟨a_5, ea_5⟩ : ∃ q : Nat → Int64, q = ((sp_X9_comes (x_2.1) (x_2.2.1) (x_2.2.2.1) (x_2.2.2.2.1) (x_2.2.2.2.2) 0).2.1) := ⟨_, rfl⟩
        obtain ⟨a_6, ea_6⟩ : ∃ q : Nat → Int32, q = ((sp_X9_comes (x_2.1) (x_2.2.1) (x_2.2.2.1) (x_2.2.2.2.1) (x_2.2.2.2.2) 0).2.2) := ⟨_, rfl⟩
        refine k_Vv ⟨hx, hb, hml, hown, hts⟩ (c_X9_comes l D cI cJ cO h r (x_2.1) (x_2.2.1) (x_2.2.2.1) (x_2.2.2.2.1) (x_2.2.2.2.2) 0 (by rw [ex_x_2, hfx_2]; exact (hc1 _ hlt_i_1).1) (by rw [ex_x_2, hfx_2]; exact (hc1 _ hlt_i_1).2)) (ci := 9) (q0 := 0) rfl rfl (cwV 1 hts gX9_goesAll_X9_comes rfl rfl rfl (by decide +kernel) ⟨Nat.le_of_ble_eq_true rfl, Nat.le_of_ble_eq_true rfl⟩) hK hN hP hD hS hA [0, 3, 4, 5] rfl rfl rfl (ws' := [(h, oX9 r M_4 (x_2.2.1)), ((r 5), .inl (cI, 9, .inl a5)), ((r 6), .inl (cI, 2, .inl a6)), ((r 12), .inl (cI, 3, .inl (x_2.2.2.1))), ((r 36), .inl (cJ, 1400, .inr (.inl a_5))), ((r 37), .inl (cI, 1400, .inl a_6))]) (by rw [eM_4, ea_5, ea_6]; rfl) rfl hl.1 rfl (Nat.le_of_ble_eq_true rfl) dX9_goesAll_40 ⟨Nat.le_refl _, Nat.le_refl _⟩ (fun H locs hP hD hS => ?_)
        refine lv_iconst (v := 0) hx hb dX9_goesAll_43 (by decide +kernel) ?_
        refine lv_istore (lv' := [(9, .int 0), (8, .int 0), (0, .ref h), (1, .int set), (2, .int may), (3, .int n), (4, .long (sp_X9_stateOf M L a12)), (6, .int (M 18)), (7, .int (nI i_1))]) hx hb dX9_goesAll_44 hl (by decide) rfl (fun ls hl => ?_)
        obtain ⟨fx_8, hfx_8⟩ : ∃ f : Nat → (Nat → Int32) × (Nat → Int32) × (Nat → Int64) × (Nat → Int32) × Int32 → (Nat → Int32) × (Nat → Int32) × (Nat → Int64) × (Nat → Int32) × Int32, f = (bd_X9_goesAll_46 a5 a6 set may i_1 x_2) := ⟨_, rfl⟩
        have hB_x_8 : n = nI n.toNatClampNeg := nI_self hn0
        have hN_x_8 : n.toNatClampNeg < 2 ^ 31 := clamp_lt _
        have Lx_8 : ∀ (nn i_7 : Nat) (x_8 : (Nat → Int32) × (Nat → Int32) × (Nat → Int64) × (Nat → Int32) × Int32), n.toNatClampNeg + 1 ≤ i_7 + nn → i_7 ≤ n.toNatClampNeg → x_8 = lp fx_8 i_7 (M_4, (x_2.2.2.1), a_5, a_6, 0) → ∀ (H : Heap) (locs : List Loc), va_P D vwCl [(h, oX9 r (x_8.1) (x_2.2.1)), ((r 5), .inl (cI, 9, .inl a5)), ((r 6), .inl (cI, 2, .inl a6)), ((r 12), .inl (cI, 3, .inl (x_8.2.1))), ((r 36), .inl (cJ, 1400, .inr (.inl (x_8.2.2.1)))), ((r 37), .inl (cI, 1400, .inl (x_8.2.2.2.1)))] H → va_D A [(h, oX9 r (x_8.1) (x_2.2.1)), ((r 5), .inl (cI, 9, .inl a5)), ((r 6), .inl (cI, 2, .inl a6)), ((r 12), .inl (cI, 3, .inl (x_8.2.1))), ((r 36), .inl (cJ, 1400, .inr (.inl (x_8.2.2.1)))), ((r 37), .inl (cI, 1400, .inl (x_8.2.2.2.1)))] → va_S A s.heap H locs → ∀ ls : Array Slot, lv_has ls 10 [(0, .ref h), (1, .int set), (2, .int may), (3, .int n), (4, .long (sp_X9_stateOf M L a12)), (6, .int (M 18)), (7, .int (nI i_1)), (8, .int (x_8.2.2.2.2)), (9, .int (nI i_7))] → W p l e (RM 3) s m ([.ref h, .int set, .int may, .int n] : List Value).toArray below meth c H locs 0 0 Q (F0 m 46 ls []) := by
          intro nn_x_8
          induction nn_x_8 with
          | zero => intro i_7 x_8 h1 h2; exact absurd h1 (by omega)
          | succ nn_x_8 ih_x_8 =>
            intro i_7 x_8 hn_x_8 hi_i_7 ex_x_8 H locs hP hD hS ls hl
            refine lv_iload hx hb dX9_goesAll_46 (lv_at hl 8 rfl) ?_
            refine lv_iload_n hx hb dX9_goesAll_48 rfl (lv_at hl 3 rfl) ?_
            refine lv_icmp_ge (tgt := 93) hx hb dX9_goesAll_49 (by decide) (fun c_9 => ?_) (fun c_9 => ?_)
            · skip
              have hq_x_8 : i_7 = n.toNatClampNeg := k_eq hB_x_8 c_9 hi_i_7 hN_x_8
              have ex_8 : x_8 = lp (bd_X9_goesAll_46 a5 a6 set may i_1 x_2) n.toNatClampNeg (M_4, (x_2.2.2.1), a_5, a_6, 0) := by rw [ex_x_8, hfx_8, hq_x_8]
              refine lv_aload_n hx hb dX9_goesAll_93 rfl (lv_at hl 0 rfl) ?_
              refine lv_iload hx hb dX9_goesAll_94 (lv_at hl 7 rfl) ?_
              refine lv_aload_n hx hb dX9_goesAll_96 rfl (lv_at hl 0 rfl) ?_
              refine k_get hx hb hts hi9 hown hK hP 0 rfl rfl 39 (by decide) hf218 (.int ((x_8.1) 39)) rfl dX9_goesAll_97 ?_
              have J_11 : ∀ z_10 : Int32, z_10 = (if (x_8.2.2.2.2) ≤ ((x_8.1) 39) then ((x_8.1) 39) else (x_8.2.2.2.2)) → ∀ (H : Heap) (locs : List Loc), va_P D vwCl [(h, oX9 r (x_8.1) (x_2.2.1)), ((r 5), .inl (cI, 9, .inl a5)), ((r 6), .inl (cI, 2, .inl a6)), ((r 12), .inl (cI, 3, .inl (x_8.2.1))), ((r 36), .inl (cJ, 1400, .inr (.inl (x_8.2.2.1)))), ((r 37), .inl (cI, 1400, .inl (x_8.2.2.2.1)))] H → va_D A [(h, oX9 r (x_8.1) (x_2.2.1)), ((r 5), .inl (cI, 9, .inl a5)), ((r 6), .inl (cI, 2, .inl a6)), ((r 12), .inl (cI, 3, .inl (x_8.2.1))), ((r 36), .inl (cJ, 1400, .inr (.inl (x_8.2.2.1)))), ((r 37), .inl (cI, 1400, .inl (x_8.2.2.2.1)))] → va_S A s.heap H locs → ∀ ls : Array Slot, lv_has ls 10 [(0, .ref h), (1, .int set), (2, .int may), (3, .int n), (4, .long (sp_X9_stateOf M L a12)), (6, .int (M 18)), (7, .int (nI i_1))] → W p l e (RM 3) s m ([.ref h, .int set, .int may, .int n] : List Value).toArray below meth c H locs 0 0 Q (F0 m 112 ls [.int z_10, .ref h]) := by
                intro z_10 ez_10 H locs hP hD hS ls hl
                refine k_put hx hb hts hi9 tyX9_ok nmX9 hown hK hP hD hS 0 rfl rfl 39 (by decide) hf218 rfl (.int z_10) rfl rfl (Nat.le_of_ble_eq_true rfl) (ws' := [(h, oX9 r (upd (x_8.1) 39 z_10) (x_2.2.1)), ((r 5), .inl (cI, 9, .inl a5)), ((r 6), .inl (cI, 2, .inl a6)), ((r 12), .inl (cI, 3, .inl (x_8.2.1))), ((r 36), .inl (cJ, 1400, .inr (.inl (x_8.2.2.1)))), ((r 37), .inl (cI, 1400, .inl (x_8.2.2.2.1)))]) rfl dX9_goesAll_112 (fun H locs hP hD hS => ?_)
                refine lv_aload_n hx hb dX9_goesAll_115 rfl (lv_at hl 0 rfl) ?_
                refine lv_lload hx hb dX9_goesAll_116 (lv_at hl 4 rfl) ?_
                refine lv_iload hx hb dX9_goesAll_118 (lv_at hl 5 rfl) ?_
                obtain ⟨M_12, eM_12⟩ : ∃ q : Nat → Int32, q = ((sp_X9_becomes (upd (x_8.1) 39 z_10) (x_2.2.1) (x_8.2.1) (sp_X9_stateOf M L a12) (M 18)).1) := ⟨_, rfl⟩
                obtain ⟨L_13, eL_13⟩ : ∃ q : Int64, q = ((sp_X9_becomes (upd (x_8.1) 39 z_10) (x_2.2.1) (x_8.2.1) (sp_X9_stateOf M L a12) (M 18)).2.1) := ⟨_, rfl⟩
                obtain ⟨a_14, ea_14⟩ : ∃ q : Nat → Int32, q = ((sp_X9_becomes (upd (x_8.1) 39 z_10) (x_2.2.1) (x_8.2.1) (sp_X9_stateOf M L a12) (M 18)).2.2) := ⟨_, rfl⟩
                refine k_Vv ⟨hx, hb, hml, hown, hts⟩ (c_X9_becomes l D cI cJ cO h r (upd (x_8.1) 39 z_10) (x_2.2.1) (x_8.2.1) (sp_X9_stateOf M L a12) (M 18)) (ci := 9) (q0 := 0) rfl rfl (cwV 2 hts gX9_goesAll_X9_becomes rfl rfl rfl (by decide +kernel) ⟨Nat.le_of_ble_eq_true rfl, Nat.le_of_ble_eq_true rfl⟩) hK hN hP hD hS hA [0, 3] rfl rfl rfl (ws' := [(h, oX9 r M_12 L_13), ((r 5), .inl (cI, 9, .inl a5)), ((r 6), .inl (cI, 2, .inl a6)), ((r 12), .inl (cI, 3, .inl a_14)), ((r 36), .inl (cJ, 1400, .inr (.inl (x_8.2.2.1)))), ((r 37), .inl (cI, 1400, .inl (x_8.2.2.2.1)))]) (by rw [eM_12, eL_13, ea_14]; rfl) rfl hl.1 rfl (Nat.le_of_ble_eq_true rfl) dX9_goesAll_120 ⟨Nat.le_refl _, Nat.le_refl _⟩ (fun H locs hP hD hS => ?_)
                refine lv_iinc (v := (nI (i_1 + 1))) (lv' := [(7, .int (nI (i_1 + 1))), (0, .ref h), (1, .int set), (2, .int may), (3, .int n), (4, .long (sp_X9_stateOf M L a12)), (6, .int (M 18))]) hx hb dX9_goesAll_123 hl (k := 6) rfl (nI_1 i_1) (by decide) rfl (fun ls hl => ?_)
                refine lv_goto (tgt := 25) hx hb dX9_goesAll_126 (by decide) ?_
                exact ih_x_2 (i_1 + 1) (M_12, L_13, a_14, (x_8.2.2.1), (x_8.2.2.2.1)) (by omega) (by omega) (by subst ea_14; subst eL_13; subst eM_12; subst ez_10; subst ex_8; subst ea_6; subst ea_5; subst eM_4; rw [show lp fx_2 (i_1 + 1) ((upd (upd M 38 0) 39 0), L, a12, a36, a37) = fx_2 i_1 (lp fx_2 i_1 ((upd (upd M 38 0) 39 0), L, a12, a36, a37)) from rfl, ← ex_x_2, hfx_2]; try (first | (rfl; done) | rfl)) _ _ hP hD hS _ (lv_sub hl [1, 2, 3, 4, 5, 6, 0] rfl)
              refine lv_icmp_le (tgt := 108) hx hb dX9_goesAll_100 (by decide) (fun c_15 => ?_) (fun c_15 => ?_)
              · skip
                refine lv_aload_n hx hb dX9_goesAll_108 rfl (lv_at hl 0 rfl) ?_
                refine k_get hx hb hts hi9 hown hK hP 0 rfl rfl 39 (by decide) hf218 (.int ((x_8.1) 39)) rfl dX9_goesAll_109 ?_
                exact J_11 ((x_8.1) 39) (by first | (simp only [if_pos c_15]; done) | rfl) _ _ hP hD hS _ (lv_sub hl [0, 1, 2, 3, 4, 5, 6] rfl)
              · skip
                refine lv_iload hx hb dX9_goesAll_103 (lv_at hl 7 rfl) ?_
                refine lv_goto (tgt := 112) hx hb dX9_goesAll_105 (by decide) ?_
                exact J_11 (x_8.2.2.2.2) (by first | (simp only [if_neg c_15]; done) | rfl) _ _ hP hD hS _ (lv_sub hl [0, 1, 2, 3, 4, 5, 6] rfl)
            · skip
              have hlt_i_7 : i_7 < n.toNatClampNeg := k_lt hB_x_8 c_9 hi_i_7 hN_x_8
              refine lv_aload_n hx hb dX9_goesAll_52 rfl (lv_at hl 0 rfl) ?_
              refine lv_iload_n hx hb dX9_goesAll_53 rfl (lv_at hl 1 rfl) ?_
              refine lv_iload_n hx hb dX9_goesAll_54 rfl (lv_at hl 2 rfl) ?_
              refine lv_iload hx hb dX9_goesAll_55 (lv_at hl 6 rfl) ?_
              refine lv_iconst (v := 2) hx hb dX9_goesAll_57 (by decide +kernel) ?_
              refine lv_iload hx hb dX9_goesAll_58 (lv_at hl 8 rfl) ?_
              refine lv_imul hx hb dX9_goesAll_60 ?_
              refine lv_ishr hx hb dX9_goesAll_61 ?_
              refine lv_iconst (v := 3) hx hb dX9_goesAll_62 (by decide +kernel) ?_
              refine lv_iand hx hb dX9_goesAll_63 ?_
              refine k_Si ⟨hx, hb, hml, hown, hts⟩ (c_X9_chosen l D cI cJ cO set may (((nI i_1) >>> ((2 * (nI i_7)) &&& 31)) &&& 3)) (va_cwS 3 hts gX9_goesAll_X9_chosen rfl rfl rfl (by decide +kernel) ⟨Nat.le_of_ble_eq_true rfl, Nat.le_of_ble_eq_true rfl⟩) hK hN hP hD hS hA [] rfl rfl rfl (ws' := [(h, oX9 r (x_8.1) (x_2.2.1)), ((r 5), .inl (cI, 9, .inl a5)), ((r 6), .inl (cI, 2, .inl a6)), ((r 12), .inl (cI, 3, .inl (x_8.2.1))), ((r 36), .inl (cJ, 1400, .inr (.inl (x_8.2.2.1)))), ((r 37), .inl (cI, 1400, .inl (x_8.2.2.2.1)))]) rfl rfl hl.1 rfl (Nat.le_of_ble_eq_true rfl) dX9_goesAll_64 ⟨Nat.le_refl _, Nat.le_refl _⟩ (fun H locs hP hD hS => ?_)
              obtain ⟨M_16, eM_16⟩ : ∃ q : Nat → Int32, q = ((sp_X9_tickBy (x_8.1) (x_2.2.1) a5 a6 (x_8.2.1) (sp_X9_chosen set may (((nI i_1) >>> ((2 * (nI i_7)) &&& 31)) &&& 3))).1) := ⟨_, rfl⟩
              obtain ⟨a_17, ea_17⟩ : ∃ q : Nat → Int32, q = ((sp_X9_tickBy (x_8.1) (x_2.2.1) a5 a6 (x_8.2.1) (sp_X9_chosen set may (((nI i_1) >>> ((2 * (nI i_7)) &&& 31)) &&& 3))).2) := ⟨_, rfl⟩
              refine k_Vv ⟨hx, hb, hml, hown, hts⟩ (c_X9_tickBy l D cI cJ cO h r (x_8.1) (x_2.2.1) a5 a6 (x_8.2.1) (sp_X9_chosen set may (((nI i_1) >>> ((2 * (nI i_7)) &&& 31)) &&& 3))) (ci := 9) (q0 := 0) rfl rfl (cwV 1 hts gX9_goesAll_X9_tickBy rfl rfl rfl (by decide +kernel) ⟨Nat.le_of_ble_eq_true rfl, Nat.le_of_ble_eq_true rfl⟩) hK hN hP hD hS hA [0, 1, 2, 3] rfl rfl rfl (ws' := [(h, oX9 r M_16 (x_2.2.1)), ((r 5), .inl (cI, 9, .inl a5)), ((r 6), .inl (cI, 2, .inl a6)), ((r 12), .inl (cI, 3, .inl a_17)), ((r 36), .inl (cJ, 1400, .inr (.inl (x_8.2.2.1)))), ((r 37), .inl (cI, 1400, .inl (x_8.2.2.2.1)))]) (by rw [eM_16, ea_17]; rfl) rfl hl.1 rfl (Nat.le_of_ble_eq_true rfl) dX9_goesAll_67 ⟨Nat.le_refl _, Nat.le_refl _⟩ (fun H locs hP hD hS => ?_)
              refine lv_iload hx hb dX9_goesAll_70 (lv_at hl 7 rfl) ?_
              refine lv_aload_n hx hb dX9_goesAll_72 rfl (lv_at hl 0 rfl) ?_
              refine k_get hx hb hts hi9 hown hK hP 0 rfl rfl 21 (by decide) hf136 (.int (M_16 21)) rfl dX9_goesAll_73 ?_
              refine lv_iadd hx hb dX9_goesAll_76 ?_
              refine lv_istore (lv' := [(8, .int ((x_8.2.2.2.2) + (M_16 21))), (0, .ref h), (1, .int set), (2, .int may), (3, .int n), (4, .long (sp_X9_stateOf M L a12)), (6, .int (M 18)), (7, .int (nI i_1)), (9, .int (nI i_7))]) hx hb dX9_goesAll_77 hl (by decide) rfl (fun ls hl => ?_)
              refine lv_aload_n hx hb dX9_goesAll_79 rfl (lv_at hl 1 rfl) ?_
              refine lv_iload hx hb dX9_goesAll_80 (lv_at hl 8 rfl) ?_
              refine lv_iconst (v := 1) hx hb dX9_goesAll_82 (by decide +kernel) ?_
              refine lv_iadd hx hb dX9_goesAll_83 ?_
              obtain ⟨M_18, eM_18⟩ : ∃ q : Nat → Int32, q = ((sp_X9_comes M_16 (x_2.2.1) a_17 (x_8.2.2.1) (x_8.2.2.2.1) ((nI i_7) + 1)).1) := ⟨_, rfl⟩
              obtain ⟨a_19, ea_19⟩ : ∃ q : Nat → Int64, q = ((sp_X9_comes M_16 (x_2.2.1) a_17 (x_8.2.2.1) (x_8.2.2.2.1) ((nI i_7) + 1)).2.1) := ⟨_, rfl⟩
              obtain ⟨a_20, ea_20⟩ : ∃ q : Nat → Int32, q = ((sp_X9_comes M_16 (x_2.2.1) a_17 (x_8.2.2.1) (x_8.2.2.2.1) ((nI i_7) + 1)).2.2) := ⟨_, rfl⟩
              refine k_Vv ⟨hx, hb, hml, hown, hts⟩ (c_X9_comes l D cI cJ cO h r M_16 (x_2.2.1) a_17 (x_8.2.2.1) (x_8.2.2.2.1) ((nI i_7) + 1) (by rw [eM_16, tickBy_fr _ _ _ _ _ _ 38 (by omega), ex_x_8, hfx_8, eM_4, ea_5, ea_6]; exact (hc2 i_1 x_2 hlt_i_1 (by rw [ex_x_2, hfx_2]) i_7 hlt_i_7).1) (by rw [eM_16, tickBy_fr _ _ _ _ _ _ 38 (by omega), ex_x_8, hfx_8, eM_4, ea_5, ea_6]; exact (hc2 i_1 x_2 hlt_i_1 (by rw [ex_x_2, hfx_2]) i_7 hlt_i_7).2)) (ci := 9) (q0 := 0) rfl rfl (cwV 1 hts gX9_goesAll_X9_comes rfl rfl rfl (by decide +kernel) ⟨Nat.le_of_ble_eq_true rfl, Nat.le_of_ble_eq_true rfl⟩) hK hN hP hD hS hA [0, 3, 4, 5] rfl rfl rfl (ws' := [(h, oX9 r M_18 (x_2.2.1)), ((r 5), .inl (cI, 9, .inl a5)), ((r 6), .inl (cI, 2, .inl a6)), ((r 12), .inl (cI, 3, .inl a_17)), ((r 36), .inl (cJ, 1400, .inr (.inl a_19))), ((r 37), .inl (cI, 1400, .inl a_20))]) (by rw [eM_18, ea_19, ea_20]; rfl) rfl hl.1 rfl (Nat.le_of_ble_eq_true rfl) dX9_goesAll_84 ⟨Nat.le_refl _, Nat.le_refl _⟩ (fun H locs hP hD hS => ?_)
              refine lv_iinc (v := (nI (i_7 + 1))) (lv' := [(9, .int (nI (i_7 + 1))), (8, .int ((x_8.2.2.2.2) + (M_16 21))), (0, .ref h), (1, .int set), (2, .int may), (3, .int n), (4, .long (sp_X9_stateOf M L a12)), (6, .int (M 18)), (7, .int (nI i_1))]) hx hb dX9_goesAll_87 hl (k := 8) rfl (nI_1 i_7) (by decide) rfl (fun ls hl => ?_)
              refine lv_goto (tgt := 46) hx hb dX9_goesAll_90 (by decide) ?_
              exact ih_x_8 (i_7 + 1) (M_18, a_17, a_19, a_20, ((x_8.2.2.2.2) + (M_16 21))) (by omega) (by omega) (by subst ea_20; subst ea_19; subst eM_18; subst ea_17; subst eM_16; rw [show lp fx_8 (i_7 + 1) (M_4, (x_2.2.2.1), a_5, a_6, 0) = fx_8 i_7 (lp fx_8 i_7 (M_4, (x_2.2.2.1), a_5, a_6, 0)) from rfl, ← ex_x_8, hfx_8]; try (first | (rfl; done) | rfl)) _ _ hP hD hS _ (lv_sub hl [2, 3, 4, 5, 6, 7, 8, 1, 0] rfl)
        exact Lx_8 (n.toNatClampNeg + 1) 0 (M_4, (x_2.2.2.1), a_5, a_6, 0) (by omega) (Nat.zero_le _) rfl _ _ hP hD hS _ (lv_sub hl [2, 3, 4, 5, 6, 7, 8, 1, 0] rfl)
  exact Lx_2 ((1 <<< ((2 * n) &&& 31)).toNatClampNeg + 1) 0 ((upd (upd M 38 0) 39 0), L, a12, a36, a37) (by omega) (Nat.zero_le _) rfl _ _ hP hD hS _ (lv_sub hl [3, 4, 5, 6, 2, 1, 0] rfl)

def bd_X9_tries_53 (a32 : Nat → Int32) (input : Int32) (v : Int32) (fr : Int32) (a_2 : Nat → Int32) (L_5 : Int64) (i_7 : Nat) (x_8 : (Nat → Int32) × (Nat → Int32) × (Nat → Int32) × (Nat → Int32)) : (Nat → Int32) × (Nat → Int32) × (Nat → Int32) × (Nat → Int32) :=
  (let z_9 : Int32 := (if (nI i_7) < fr then 2 else v); (let M_11 : Nat → Int32 := ((sp_X9_tickBy (x_8.1) L_5 (upd (x_8.2.1) input.toNatClampNeg z_9) a_2 (x_8.2.2.1) (a32 i_7)).1); (let a_12 : Nat → Int32 := ((sp_X9_tickBy (x_8.1) L_5 (upd (x_8.2.1) input.toNatClampNeg z_9) a_2 (x_8.2.2.1) (a32 i_7)).2); (let z_13 : Int32 := (((x_8.2.2.2) 0) + (M_11 21)); (let z_14 : Int32 := (((upd (x_8.2.2.2) 0 z_13) 4) + (M_11 22)); (let z_15 : Nat → Int32 := (if (M_11 19) = (-9) then (upd (upd (x_8.2.2.2) 0 z_13) 4 z_14) else (if ((upd (upd (x_8.2.2.2) 0 z_13) 4 z_14) 1) = (-9) then (let z_16 : Int32 := ((nI i_7) + 1); (upd (upd (upd (upd (x_8.2.2.2) 0 z_13) 4 z_14) 1 z_16) 2 (M_11 19))) else (upd (upd (x_8.2.2.2) 0 z_13) 4 z_14))); (M_11, (upd (x_8.2.1) input.toNatClampNeg z_9), a_12, z_15)))))))
def sp_X9_tries (M : Nat → Int32) (L : Int64) (a5 : Nat → Int32) (a6 : Nat → Int32) (a12 : Nat → Int32) (a32 : Nat → Int32) (a34 : Nat → Int32) (a35 : Nat → Int32) (input : Int32) (v : Int32) (fr : Int32) : (Nat → Int32) × (Int64) × (Nat → Int32) × (Nat → Int32) × (Nat → Int32) × (Nat → Int32) × (Nat → Int32) :=
  let a_1 : Nat → Int32 := ((sp_X9_keeps M L a5 a6 a35).1)
  let a_2 : Nat → Int32 := ((sp_X9_keeps M L a5 a6 a35).2.1)
  let a_3 : Nat → Int32 := ((sp_X9_keeps M L a5 a6 a35).2.2)
  let M_4 : Nat → Int32 := ((sp_X9_begins M L a12).1)
  let L_5 : Int64 := ((sp_X9_begins M L a12).2.1)
  let a_6 : Nat → Int32 := ((sp_X9_begins M L a12).2.2)
  let x_8 : (Nat → Int32) × (Nat → Int32) × (Nat → Int32) × (Nat → Int32) := lp (bd_X9_tries_53 a32 input v fr a_2 L_5) ((M 33).toNatClampNeg) (M_4, a_1, a_6, (upd (upd (upd (upd a34 0 0) 1 (-9)) 2 (-9)) 4 0))
  let z_10 : Int32 := ((x_8.1) 7)
  let a_11 : Nat → Int32 := ((sp_X9_restores (x_8.1) L_5 (x_8.2.1) a_2 a_3).1)
  let a_12 : Nat → Int32 := ((sp_X9_restores (x_8.1) L_5 (x_8.2.1) a_2 a_3).2)
  let M_13 : Nat → Int32 := ((sp_X9_becomes (x_8.1) L_5 (x_8.2.2.1) (sp_X9_stateOf M L a12) (M 18)).1)
  let L_14 : Int64 := ((sp_X9_becomes (x_8.1) L_5 (x_8.2.2.1) (sp_X9_stateOf M L a12) (M 18)).2.1)
  let a_15 : Nat → Int32 := ((sp_X9_becomes (x_8.1) L_5 (x_8.2.2.1) (sp_X9_stateOf M L a12) (M 18)).2.2)
  (M_13, L_14, a_11, a_12, a_15, (upd (x_8.2.2.2) 3 z_10), a_3)
set_option maxRecDepth 100000 in
theorem sq_X9_tries_1 (M : Nat → Int32) (L : Int64) (a5 : Nat → Int32) (a6 : Nat → Int32) (a12 : Nat → Int32) (a32 : Nat → Int32) (a34 : Nat → Int32) (a35 : Nat → Int32) (input : Int32) (v : Int32) (fr : Int32) (a_1 : Nat → Int32) (a_2 : Nat → Int32) (a_3 : Nat → Int32) (M_4 : Nat → Int32) (L_5 : Int64) (a_6 : Nat → Int32) (x_8 : (Nat → Int32) × (Nat → Int32) × (Nat → Int32) × (Nat → Int32)) (z_10 : Int32) (a_11 : Nat → Int32) (a_12 : Nat → Int32) (M_13 : Nat → Int32) (L_14 : Int64) (a_15 : Nat → Int32) (ea_1 : a_1 = ((sp_X9_keeps M L a5 a6 a35).1)) (ea_2 : a_2 = ((sp_X9_keeps M L a5 a6 a35).2.1)) (ea_3 : a_3 = ((sp_X9_keeps M L a5 a6 a35).2.2)) (eM_4 : M_4 = ((sp_X9_begins M L a12).1)) (eL_5 : L_5 = ((sp_X9_begins M L a12).2.1)) (ea_6 : a_6 = ((sp_X9_begins M L a12).2.2)) (ex_8 : x_8 = lp (bd_X9_tries_53 a32 input v fr a_2 L_5) ((M 33).toNatClampNeg) (M_4, a_1, a_6, (upd (upd (upd (upd a34 0 0) 1 (-9)) 2 (-9)) 4 0))) (ez_10 : z_10 = ((x_8.1) 7)) (ea_11 : a_11 = ((sp_X9_restores (x_8.1) L_5 (x_8.2.1) a_2 a_3).1)) (ea_12 : a_12 = ((sp_X9_restores (x_8.1) L_5 (x_8.2.1) a_2 a_3).2)) (eM_13 : M_13 = ((sp_X9_becomes (x_8.1) L_5 (x_8.2.2.1) (sp_X9_stateOf M L a12) (M 18)).1)) (eL_14 : L_14 = ((sp_X9_becomes (x_8.1) L_5 (x_8.2.2.1) (sp_X9_stateOf M L a12) (M 18)).2.1)) (ea_15 : a_15 = ((sp_X9_becomes (x_8.1) L_5 (x_8.2.2.1) (sp_X9_stateOf M L a12) (M 18)).2.2)) : sp_X9_tries M L a5 a6 a12 a32 a34 a35 input v fr = (M_13, L_14, a_11, a_12, a_15, (upd (x_8.2.2.2) 3 z_10), a_3) := by subst ea_15; subst eL_14; subst eM_13; subst ea_12; subst ea_11; subst ez_10; subst ex_8; subst ea_6; subst eL_5; subst eM_4; subst ea_3; subst ea_2; subst ea_1; rfl
set_option maxHeartbeats 4000000 in
set_option maxRecDepth 100000 in
theorem c_X9_tries (l : Launch) (D : va_G) (cI cJ cO : ClassId) (h : Nat) (r : Nat → Nat) (M : Nat → Int32) (L : Int64) (a5 : Nat → Int32) (a6 : Nat → Int32) (a12 : Nat → Int32) (a32 : Nat → Int32) (a34 : Nat → Int32) (a35 : Nat → Int32) (input : Int32) (v : Int32) (fr : Int32) (hin : vp_in input 9) (h0 : ¬ M 33 < 0) (h32 : (M 33).toNatClampNeg ≤ 32) : MV l D (TY cI cJ cO) yX9_tries wsX9_tries (RM 3) [.ref h, .int input, .int v, .int fr] [(h, oX9 r M L), ((r 5), .inl (cI, 9, .inl a5)), ((r 6), .inl (cI, 2, .inl a6)), ((r 12), .inl (cI, 3, .inl a12)), ((r 32), .inl (cI, 32, .inl a32)), ((r 34), .inl (cI, 5, .inl a34)), ((r 35), .inl (cI, 11, .inl a35))] [(h, oX9 r ((sp_X9_tries M L a5 a6 a12 a32 a34 a35 input v fr).1) ((sp_X9_tries M L a5 a6 a12 a32 a34 a35 input v fr).2.1)), ((r 5), .inl (cI, 9, .inl ((sp_X9_tries M L a5 a6 a12 a32 a34 a35 input v fr).2.2.1))), ((r 6), .inl (cI, 2, .inl ((sp_X9_tries M L a5 a6 a12 a32 a34 a35 input v fr).2.2.2.1))), ((r 12), .inl (cI, 3, .inl ((sp_X9_tries M L a5 a6 a12 a32 a34 a35 input v fr).2.2.2.2.1))), ((r 32), .inl (cI, 32, .inl a32)), ((r 34), .inl (cI, 5, .inl ((sp_X9_tries M L a5 a6 a12 a32 a34 a35 input v fr).2.2.2.2.2.1))), ((r 35), .inl (cI, 11, .inl ((sp_X9_tries M L a5 a6 a12 a32 a34 a35 input v fr).2.2.2.2.2.2)))] := by
  refine k_entV (cc := cX9_tries) (maxL := 8) (lv := [(0, .ref h), (1, .int input), (2, .int v), (3, .int fr)]) (by decide +kernel) rfl (Nat.le_of_ble_eq_true rfl) rfl ?_
  intro p e s m below meth c A Q ls hx hb hml hts hown hA hS hP hD hK hN hl hret
  have hown : s.vm.findClass RX9 = some m.cls := hown
  have hi9 : ∀ w ∈ wsX90, w ∈ wsX9_tries := fun w h => List.mem_cons_of_mem _ (List.mem_append_right _ h)
  have hf25 := hts (.fieldLink RX9 25 "PressGuardModel" "stuck" "[I") (by decide +kernel)
  have hf32 := hts (.fieldLink RX9 32 "PressGuardModel" "mode" "I") (by decide +kernel)
  have hf38 := hts (.fieldLink RX9 38 "PressGuardModel" "lockedBy" "I") (by decide +kernel)
  have hf50 := hts (.fieldLink RX9 50 "PressGuardModel" "script" "[I") (by decide +kernel)
  have hf53 := hts (.fieldLink RX9 53 "PressGuardModel" "results" "[I") (by decide +kernel)
  have hf127 := hts (.fieldLink RX9 127 "PressGuardModel" "newCause" "I") (by decide +kernel)
  have hf136 := hts (.fieldLink RX9 136 "PressGuardModel" "danger" "I") (by decide +kernel)
  have hf139 := hts (.fieldLink RX9 139 "PressGuardModel" "round" "I") (by decide +kernel)
  have hf202 := hts (.fieldLink RX9 202 "PressGuardModel" "steps" "I") (by decide +kernel)
  refine lv_aload_n hx hb dX9_tries_0 rfl (lv_at hl 0 rfl) ?_
  refine k_Vl ⟨hx, hb, hml, hown, hts⟩ (c_X9_stateOf l D cI cJ cO h r M L a12) (ci := 9) (q0 := 0) rfl rfl (cwV 0 hts gX9_tries_X9_stateOf rfl rfl rfl (by decide +kernel) ⟨Nat.le_of_ble_eq_true rfl, Nat.le_of_ble_eq_true rfl⟩) hK hN hP hD hS hA [0, 3] rfl rfl rfl (ws' := [(h, oX9 r M L), ((r 5), .inl (cI, 9, .inl a5)), ((r 6), .inl (cI, 2, .inl a6)), ((r 12), .inl (cI, 3, .inl a12)), ((r 32), .inl (cI, 32, .inl a32)), ((r 34), .inl (cI, 5, .inl a34)), ((r 35), .inl (cI, 11, .inl a35))]) rfl rfl hl.1 rfl (Nat.le_of_ble_eq_true rfl) dX9_tries_1 ⟨Nat.le_refl _, Nat.le_refl _⟩ (fun H locs hP hD hS => ?_)
  refine lv_lstore (lv' := [(4, .long (sp_X9_stateOf M L a12)), (0, .ref h), (1, .int input), (2, .int v), (3, .int fr)]) hx hb dX9_tries_4 hl (by decide) rfl (fun ls hl => ?_)
  refine lv_aload_n hx hb dX9_tries_6 rfl (lv_at hl 1 rfl) ?_
  refine k_get hx hb hts hi9 hown hK hP 0 rfl rfl 18 (by decide) hf38 (.int (M 18)) rfl dX9_tries_7 ?_
  refine lv_istore (lv' := [(6, .int (M 18)), (4, .long (sp_X9_stateOf M L a12)), (0, .ref h), (1, .int input), (2, .int v), (3, .int fr)]) hx hb dX9_tries_10 hl (by decide) rfl (fun ls hl => ?_)
  refine lv_aload_n hx hb dX9_tries_12 rfl (lv_at hl 2 rfl) ?_
  obtain ⟨a_1, ea_1⟩ : ∃ q : Nat → Int32, q = ((sp_X9_keeps M L a5 a6 a35).1) := ⟨_, rfl⟩
  obtain ⟨a_2, ea_2⟩ : ∃ q : Nat → Int32, q = ((sp_X9_keeps M L a5 a6 a35).2.1) := ⟨_, rfl⟩
  obtain ⟨a_3, ea_3⟩ : ∃ q : Nat → Int32, q = ((sp_X9_keeps M L a5 a6 a35).2.2) := ⟨_, rfl⟩
  refine k_Vv ⟨hx, hb, hml, hown, hts⟩ (c_X9_keeps l D cI cJ cO h r M L a5 a6 a35) (ci := 9) (q0 := 0) rfl rfl (cwV 0 hts gX9_tries_X9_keeps rfl rfl rfl (by decide +kernel) ⟨Nat.le_of_ble_eq_true rfl, Nat.le_of_ble_eq_true rfl⟩) hK hN hP hD hS hA [0, 1, 2, 6] rfl rfl rfl (ws' := [(h, oX9 r M L), ((r 5), .inl (cI, 9, .inl a_1)), ((r 6), .inl (cI, 2, .inl a_2)), ((r 12), .inl (cI, 3, .inl a12)), ((r 32), .inl (cI, 32, .inl a32)), ((r 34), .inl (cI, 5, .inl a34)), ((r 35), .inl (cI, 11, .inl a_3))]) (by rw [ea_1, ea_2, ea_3]; rfl) rfl hl.1 rfl (Nat.le_of_ble_eq_true rfl) dX9_tries_13 ⟨Nat.le_refl _, Nat.le_refl _⟩ (fun H locs hP hD hS => ?_)
  refine lv_aload_n hx hb dX9_tries_16 rfl (lv_at hl 2 rfl) ?_
  obtain ⟨M_4, eM_4⟩ : ∃ q : Nat → Int32, q = ((sp_X9_begins M L a12).1) := ⟨_, rfl⟩
  obtain ⟨L_5, eL_5⟩ : ∃ q : Int64, q = ((sp_X9_begins M L a12).2.1) := ⟨_, rfl⟩
  obtain ⟨a_6, ea_6⟩ : ∃ q : Nat → Int32, q = ((sp_X9_begins M L a12).2.2) := ⟨_, rfl⟩
  refine k_Vv ⟨hx, hb, hml, hown, hts⟩ (c_X9_begins l D cI cJ cO h r M L a12) (ci := 9) (q0 := 0) rfl rfl (cwV 0 hts gX9_tries_X9_begins rfl rfl rfl (by decide +kernel) ⟨Nat.le_of_ble_eq_true rfl, Nat.le_of_ble_eq_true rfl⟩) hK hN hP hD hS hA [0, 3] rfl rfl rfl (ws' := [(h, oX9 r M_4 L_5), ((r 5), .inl (cI, 9, .inl a_1)), ((r 6), .inl (cI, 2, .inl a_2)), ((r 12), .inl (cI, 3, .inl a_6)), ((r 32), .inl (cI, 32, .inl a32)), ((r 34), .inl (cI, 5, .inl a34)), ((r 35), .inl (cI, 11, .inl a_3))]) (by rw [eM_4, eL_5, ea_6]; rfl) rfl hl.1 rfl (Nat.le_of_ble_eq_true rfl) dX9_tries_17 ⟨Nat.le_refl _, Nat.le_refl _⟩ (fun H locs hP hD hS => ?_)
  refine lv_aload_n hx hb dX9_tries_20 rfl (lv_at hl 2 rfl) ?_
  refine k_get hx hb hts hi9 hown hK hP 0 rfl rfl 34 (by decide) hf53 (.ref (r 34)) rfl dX9_tries_21 ?_
  refine lv_iconst (v := 0) hx hb dX9_tries_24 (by decide +kernel) ?_
  refine lv_iconst (v := 0) hx hb dX9_tries_25 (by decide +kernel) ?_
  refine k_iast hx hb hK hP hD hS 5 0 rfl rfl 0 (by decide +kernel) (vp_in_iff.mpr (by decide +kernel)) (ws' := [(h, oX9 r M_4 L_5), ((r 5), .inl (cI, 9, .inl a_1)), ((r 6), .inl (cI, 2, .inl a_2)), ((r 12), .inl (cI, 3, .inl a_6)), ((r 32), .inl (cI, 32, .inl a32)), ((r 34), .inl (cI, 5, .inl (upd a34 0 0))), ((r 35), .inl (cI, 11, .inl a_3))]) rfl dX9_tries_26 (fun H locs hP hD hS => ?_)
  refine lv_aload_n hx hb dX9_tries_27 rfl (lv_at hl 2 rfl) ?_
  refine k_get hx hb hts hi9 hown hK hP 0 rfl rfl 34 (by decide) hf53 (.ref (r 34)) rfl dX9_tries_28 ?_
  refine lv_iconst (v := 1) hx hb dX9_tries_31 (by decide +kernel) ?_
  refine lv_bipush (v := (-9)) hx hb dX9_tries_32 (by decide +kernel) ?_
  refine k_iast hx hb hK hP hD hS 5 0 rfl rfl 1 (by decide +kernel) (vp_in_iff.mpr (by decide +kernel)) (ws' := [(h, oX9 r M_4 L_5), ((r 5), .inl (cI, 9, .inl a_1)), ((r 6), .inl (cI, 2, .inl a_2)), ((r 12), .inl (cI, 3, .inl a_6)), ((r 32), .inl (cI, 32, .inl a32)), ((r 34), .inl (cI, 5, .inl (upd (upd a34 0 0) 1 (-9)))), ((r 35), .inl (cI, 11, .inl a_3))]) rfl dX9_tries_34 (fun H locs hP hD hS => ?_)
  refine lv_aload_n hx hb dX9_tries_35 rfl (lv_at hl 2 rfl) ?_
  refine k_get hx hb hts hi9 hown hK hP 0 rfl rfl 34 (by decide) hf53 (.ref (r 34)) rfl dX9_tries_36 ?_
  refine lv_iconst (v := 2) hx hb dX9_tries_39 (by decide +kernel) ?_
  refine lv_bipush (v := (-9)) hx hb dX9_tries_40 (by decide +kernel) ?_
  refine k_iast hx hb hK hP hD hS 5 0 rfl rfl 2 (by decide +kernel) (vp_in_iff.mpr (by decide +kernel)) (ws' := [(h, oX9 r M_4 L_5), ((r 5), .inl (cI, 9, .inl a_1)), ((r 6), .inl (cI, 2, .inl a_2)), ((r 12), .inl (cI, 3, .inl a_6)), ((r 32), .inl (cI, 32, .inl a32)), ((r 34), .inl (cI, 5, .inl (upd (upd (upd a34 0 0) 1 (-9)) 2 (-9)))), ((r 35), .inl (cI, 11, .inl a_3))]) rfl dX9_tries_42 (fun H locs hP hD hS => ?_)
  refine lv_aload_n hx hb dX9_tries_43 rfl (lv_at hl 2 rfl) ?_
  refine k_get hx hb hts hi9 hown hK hP 0 rfl rfl 34 (by decide) hf53 (.ref (r 34)) rfl dX9_tries_44 ?_
  refine lv_iconst (v := 4) hx hb dX9_tries_47 (by decide +kernel) ?_
  refine lv_iconst (v := 0) hx hb dX9_tries_48 (by decide +kernel) ?_
  refine k_iast hx hb hK hP hD hS 5 0 rfl rfl 4 (by decide +kernel) (vp_in_iff.mpr (by decide +kernel)) (ws' := [(h, oX9 r M_4 L_5), ((r 5), .inl (cI, 9, .inl a_1)), ((r 6), .inl (cI, 2, .inl a_2)), ((r 12), .inl (cI, 3, .inl a_6)), ((r 32), .inl (cI, 32, .inl a32)), ((r 34), .inl (cI, 5, .inl (upd (upd (upd (upd a34 0 0) 1 (-9)) 2 (-9)) 4 0))), ((r 35), .inl (cI, 11, .inl a_3))]) rfl dX9_tries_49 (fun H locs hP hD hS => ?_)
  refine lv_iconst (v := 0) hx hb dX9_tries_50 (by decide +kernel) ?_
  refine lv_istore (lv' := [(7, .int 0), (6, .int (M 18)), (4, .long (sp_X9_stateOf M L a12)), (0, .ref h), (1, .int input), (2, .int v), (3, .int fr)]) hx hb dX9_tries_51 hl (by decide) rfl (fun ls hl => ?_)
  obtain ⟨fx_8, hfx_8⟩ : ∃ f : Nat → (Nat → Int32) × (Nat → Int32) × (Nat → Int32) × (Nat → Int32) → (Nat → Int32) × (Nat → Int32) × (Nat → Int32) × (Nat → Int32), f = (bd_X9_tries_53 a32 input v fr a_2 L_5) := ⟨_, rfl⟩
  have hN_x_8 : (M 33).toNatClampNeg < 2 ^ 31 := clamp_lt _
  have Lx_8 : ∀ (nn i_7 : Nat) (x_8 : (Nat → Int32) × (Nat → Int32) × (Nat → Int32) × (Nat → Int32)), (M 33).toNatClampNeg + 1 ≤ i_7 + nn → i_7 ≤ (M 33).toNatClampNeg → x_8 = lp fx_8 i_7 (M_4, a_1, a_6, (upd (upd (upd (upd a34 0 0) 1 (-9)) 2 (-9)) 4 0)) → (x_8.1) 33 = M 33 → ∀ (H : Heap) (locs : List Loc), va_P D vwCl [(h, oX9 r (x_8.1) L_5), ((r 5), .inl (cI, 9, .inl (x_8.2.1))), ((r 6), .inl (cI, 2, .inl a_2)), ((r 12), .inl (cI, 3, .inl (x_8.2.2.1))), ((r 32), .inl (cI, 32, .inl a32)), ((r 34), .inl (cI, 5, .inl (x_8.2.2.2))), ((r 35), .inl (cI, 11, .inl a_3))] H → va_D A [(h, oX9 r (x_8.1) L_5), ((r 5), .inl (cI, 9, .inl (x_8.2.1))), ((r 6), .inl (cI, 2, .inl a_2)), ((r 12), .inl (cI, 3, .inl (x_8.2.2.1))), ((r 32), .inl (cI, 32, .inl a32)), ((r 34), .inl (cI, 5, .inl (x_8.2.2.2))), ((r 35), .inl (cI, 11, .inl a_3))] → va_S A s.heap H locs → ∀ ls : Array Slot, lv_has ls 8 [(0, .ref h), (1, .int input), (2, .int v), (3, .int fr), (4, .long (sp_X9_stateOf M L a12)), (6, .int (M 18)), (7, .int (nI i_7))] → W p l e (RM 3) s m ([.ref h, .int input, .int v, .int fr] : List Value).toArray below meth c H locs 0 0 Q (F0 m 53 ls []) := by
    intro nn_x_8
    induction nn_x_8 with
    | zero => intro i_7 x_8 h1 h2; exact absurd h1 (by omega)
    | succ nn_x_8 ih_x_8 =>
      intro i_7 x_8 hn_x_8 hi_i_7 ex_x_8 hv_x_8 H locs hP hD hS ls hl
      have hB_x_8 : (((x_8.1) 33) : Int32) = nI ((M 33).toNatClampNeg) := hv_x_8.trans (nI_self h0)
      refine lv_iload hx hb dX9_tries_53 (lv_at hl 6 rfl) ?_
      refine lv_aload_n hx hb dX9_tries_55 rfl (lv_at hl 0 rfl) ?_
      refine k_get hx hb hts hi9 hown hK hP 0 rfl rfl 33 (by decide) hf202 (.int ((x_8.1) 33)) rfl dX9_tries_56 ?_
      refine lv_icmp_ge (tgt := 162) hx hb dX9_tries_59 (by decide) (fun c_9 => ?_) (fun c_9 => ?_)
      · skip
        have hq_x_8 : i_7 = (M 33).toNatClampNeg := k_eq hB_x_8 c_9 hi_i_7 hN_x_8
        have ex_8 : x_8 = lp (bd_X9_tries_53 a32 input v fr a_2 L_5) ((M 33).toNatClampNeg) (M_4, a_1, a_6, (upd (upd (upd (upd a34 0 0) 1 (-9)) 2 (-9)) 4 0)) := by rw [ex_x_8, hfx_8, hq_x_8]
        refine lv_aload_n hx hb dX9_tries_162 rfl (lv_at hl 0 rfl) ?_
        refine k_get hx hb hts hi9 hown hK hP 0 rfl rfl 34 (by decide) hf53 (.ref (r 34)) rfl dX9_tries_163 ?_
        refine lv_iconst (v := 3) hx hb dX9_tries_166 (by decide +kernel) ?_
        refine lv_aload_n hx hb dX9_tries_167 rfl (lv_at hl 0 rfl) ?_
        refine k_get hx hb hts hi9 hown hK hP 0 rfl rfl 7 (by decide) hf32 (.int ((x_8.1) 7)) rfl dX9_tries_168 ?_
        refine lv_topi (fun z_10 ez_10 => ?_)
        refine k_iast hx hb hK hP hD hS 5 0 rfl rfl 3 (by decide +kernel) (vp_in_iff.mpr (by decide +kernel)) (ws' := [(h, oX9 r (x_8.1) L_5), ((r 5), .inl (cI, 9, .inl (x_8.2.1))), ((r 6), .inl (cI, 2, .inl a_2)), ((r 12), .inl (cI, 3, .inl (x_8.2.2.1))), ((r 32), .inl (cI, 32, .inl a32)), ((r 34), .inl (cI, 5, .inl (upd (x_8.2.2.2) 3 z_10))), ((r 35), .inl (cI, 11, .inl a_3))]) rfl dX9_tries_171 (fun H locs hP hD hS => ?_)
        refine lv_aload_n hx hb dX9_tries_172 rfl (lv_at hl 0 rfl) ?_
        obtain ⟨a_11, ea_11⟩ : ∃ q : Nat → Int32, q = ((sp_X9_restores (x_8.1) L_5 (x_8.2.1) a_2 a_3).1) := ⟨_, rfl⟩
        obtain ⟨a_12, ea_12⟩ : ∃ q : Nat → Int32, q = ((sp_X9_restores (x_8.1) L_5 (x_8.2.1) a_2 a_3).2) := ⟨_, rfl⟩
        refine k_Vv ⟨hx, hb, hml, hown, hts⟩ (c_X9_restores l D cI cJ cO h r (x_8.1) L_5 (x_8.2.1) a_2 a_3) (ci := 9) (q0 := 0) rfl rfl (cwV 0 hts gX9_tries_X9_restores rfl rfl rfl (by decide +kernel) ⟨Nat.le_of_ble_eq_true rfl, Nat.le_of_ble_eq_true rfl⟩) hK hN hP hD hS hA [0, 1, 2, 6] rfl rfl rfl (ws' := [(h, oX9 r (x_8.1) L_5), ((r 5), .inl (cI, 9, .inl a_11)), ((r 6), .inl (cI, 2, .inl a_12)), ((r 12), .inl (cI, 3, .inl (x_8.2.2.1))), ((r 32), .inl (cI, 32, .inl a32)), ((r 34), .inl (cI, 5, .inl (upd (x_8.2.2.2) 3 z_10))), ((r 35), .inl (cI, 11, .inl a_3))]) (by rw [ea_11, ea_12]; rfl) rfl hl.1 rfl (Nat.le_of_ble_eq_true rfl) dX9_tries_173 ⟨Nat.le_refl _, Nat.le_refl _⟩ (fun H locs hP hD hS => ?_)
        refine lv_aload_n hx hb dX9_tries_176 rfl (lv_at hl 0 rfl) ?_
        refine lv_lload hx hb dX9_tries_177 (lv_at hl 4 rfl) ?_
        refine lv_iload hx hb dX9_tries_179 (lv_at hl 5 rfl) ?_
        obtain ⟨M_13, eM_13⟩ : ∃ q : Nat → Int32, q = ((sp_X9_becomes (x_8.1) L_5 (x_8.2.2.1) (sp_X9_stateOf M L a12) (M 18)).1) := ⟨_, rfl⟩
        obtain ⟨L_14, eL_14⟩ : ∃ q : Int64, q = ((sp_X9_becomes (x_8.1) L_5 (x_8.2.2.1) (sp_X9_stateOf M L a12) (M 18)).2.1) := ⟨_, rfl⟩
        obtain ⟨a_15, ea_15⟩ : ∃ q : Nat → Int32, q = ((sp_X9_becomes (x_8.1) L_5 (x_8.2.2.1) (sp_X9_stateOf M L a12) (M 18)).2.2) := ⟨_, rfl⟩
        refine k_Vv ⟨hx, hb, hml, hown, hts⟩ (c_X9_becomes l D cI cJ cO h r (x_8.1) L_5 (x_8.2.2.1) (sp_X9_stateOf M L a12) (M 18)) (ci := 9) (q0 := 0) rfl rfl (cwV 2 hts gX9_tries_X9_becomes rfl rfl rfl (by decide +kernel) ⟨Nat.le_of_ble_eq_true rfl, Nat.le_of_ble_eq_true rfl⟩) hK hN hP hD hS hA [0, 3] rfl rfl rfl (ws' := [(h, oX9 r M_13 L_14), ((r 5), .inl (cI, 9, .inl a_11)), ((r 6), .inl (cI, 2, .inl a_12)), ((r 12), .inl (cI, 3, .inl a_15)), ((r 32), .inl (cI, 32, .inl a32)), ((r 34), .inl (cI, 5, .inl (upd (x_8.2.2.2) 3 z_10))), ((r 35), .inl (cI, 11, .inl a_3))]) (by rw [eM_13, eL_14, ea_15]; rfl) rfl hl.1 rfl (Nat.le_of_ble_eq_true rfl) dX9_tries_181 ⟨Nat.le_refl _, Nat.le_refl _⟩ (fun H locs hP hD hS => ?_)
        have hsp : sp_X9_tries M L a5 a6 a12 a32 a34 a35 input v fr = (M_13, L_14, a_11, a_12, a_15, (upd (x_8.2.2.2) 3 z_10), a_3) := sq_X9_tries_1 M L a5 a6 a12 a32 a34 a35 input v fr a_1 a_2 a_3 M_4 L_5 a_6 x_8 z_10 a_11 a_12 M_13 L_14 a_15 ea_1 ea_2 ea_3 eM_4 eL_5 ea_6 ex_8 ez_10 ea_11 ea_12 eM_13 eL_14 ea_15
        exact hret _ _ _ _ (by rw [hsp]; exact hP) hS dX9_tries_184
      · skip
        have hlt_i_7 : i_7 < (M 33).toNatClampNeg := k_lt hB_x_8 c_9 hi_i_7 hN_x_8
        refine lv_aload_n hx hb dX9_tries_62 rfl (lv_at hl 0 rfl) ?_
        refine k_get hx hb hts hi9 hown hK hP 0 rfl rfl 5 (by decide) hf25 (.ref (r 5)) rfl dX9_tries_63 ?_
        refine lv_iload_n hx hb dX9_tries_66 rfl (lv_at hl 1 rfl) ?_
        refine lv_iload hx hb dX9_tries_67 (lv_at hl 6 rfl) ?_
        refine lv_iload_n hx hb dX9_tries_69 rfl (lv_at hl 3 rfl) ?_
        have J_17 : ∀ z_16 : Int32, z_16 = (if (nI i_7) < fr then 2 else v) → ∀ (H : Heap) (locs : List Loc), va_P D vwCl [(h, oX9 r (x_8.1) L_5), ((r 5), .inl (cI, 9, .inl (x_8.2.1))), ((r 6), .inl (cI, 2, .inl a_2)), ((r 12), .inl (cI, 3, .inl (x_8.2.2.1))), ((r 32), .inl (cI, 32, .inl a32)), ((r 34), .inl (cI, 5, .inl (x_8.2.2.2))), ((r 35), .inl (cI, 11, .inl a_3))] H → va_D A [(h, oX9 r (x_8.1) L_5), ((r 5), .inl (cI, 9, .inl (x_8.2.1))), ((r 6), .inl (cI, 2, .inl a_2)), ((r 12), .inl (cI, 3, .inl (x_8.2.2.1))), ((r 32), .inl (cI, 32, .inl a32)), ((r 34), .inl (cI, 5, .inl (x_8.2.2.2))), ((r 35), .inl (cI, 11, .inl a_3))] → va_S A s.heap H locs → ∀ ls : Array Slot, lv_has ls 8 [(0, .ref h), (1, .int input), (2, .int v), (3, .int fr), (4, .long (sp_X9_stateOf M L a12)), (6, .int (M 18)), (7, .int (nI i_7))] → W p l e (RM 3) s m ([.ref h, .int input, .int v, .int fr] : List Value).toArray below meth c H locs 0 0 Q (F0 m 78 ls [.int z_16, .int input, .ref (r 5)]) := by
          intro z_16 ez_16 H locs hP hD hS ls hl
          refine k_iast hx hb hK hP hD hS 1 0 rfl rfl input.toNatClampNeg (rfl) (hin) (ws' := [(h, oX9 r (x_8.1) L_5), ((r 5), .inl (cI, 9, .inl (upd (x_8.2.1) input.toNatClampNeg z_16))), ((r 6), .inl (cI, 2, .inl a_2)), ((r 12), .inl (cI, 3, .inl (x_8.2.2.1))), ((r 32), .inl (cI, 32, .inl a32)), ((r 34), .inl (cI, 5, .inl (x_8.2.2.2))), ((r 35), .inl (cI, 11, .inl a_3))]) rfl dX9_tries_78 (fun H locs hP hD hS => ?_)
          refine lv_aload_n hx hb dX9_tries_79 rfl (lv_at hl 0 rfl) ?_
          refine lv_aload_n hx hb dX9_tries_80 rfl (lv_at hl 0 rfl) ?_
          refine k_get hx hb hts hi9 hown hK hP 0 rfl rfl 32 (by decide) hf50 (.ref (r 32)) rfl dX9_tries_81 ?_
          refine lv_iload hx hb dX9_tries_84 (lv_at hl 6 rfl) ?_
          refine k_iald hx hb hK hP 4 0 rfl rfl i_7 (nI_clamp (by omega)) (vp_in_nI (by omega) (by omega)) dX9_tries_86 ?_
          obtain ⟨M_18, eM_18⟩ : ∃ q : Nat → Int32, q = ((sp_X9_tickBy (x_8.1) L_5 (upd (x_8.2.1) input.toNatClampNeg z_16) a_2 (x_8.2.2.1) (a32 i_7)).1) := ⟨_, rfl⟩
          obtain ⟨a_19, ea_19⟩ : ∃ q : Nat → Int32, q = ((sp_X9_tickBy (x_8.1) L_5 (upd (x_8.2.1) input.toNatClampNeg z_16) a_2 (x_8.2.2.1) (a32 i_7)).2) := ⟨_, rfl⟩
          refine k_Vv ⟨hx, hb, hml, hown, hts⟩ (c_X9_tickBy l D cI cJ cO h r (x_8.1) L_5 (upd (x_8.2.1) input.toNatClampNeg z_16) a_2 (x_8.2.2.1) (a32 i_7)) (ci := 9) (q0 := 0) rfl rfl (cwV 1 hts gX9_tries_X9_tickBy rfl rfl rfl (by decide +kernel) ⟨Nat.le_of_ble_eq_true rfl, Nat.le_of_ble_eq_true rfl⟩) hK hN hP hD hS hA [0, 1, 2, 3] rfl rfl rfl (ws' := [(h, oX9 r M_18 L_5), ((r 5), .inl (cI, 9, .inl (upd (x_8.2.1) input.toNatClampNeg z_16))), ((r 6), .inl (cI, 2, .inl a_2)), ((r 12), .inl (cI, 3, .inl a_19)), ((r 32), .inl (cI, 32, .inl a32)), ((r 34), .inl (cI, 5, .inl (x_8.2.2.2))), ((r 35), .inl (cI, 11, .inl a_3))]) (by rw [eM_18, ea_19]; rfl) rfl hl.1 rfl (Nat.le_of_ble_eq_true rfl) dX9_tries_87 ⟨Nat.le_refl _, Nat.le_refl _⟩ (fun H locs hP hD hS => ?_)
          refine lv_aload_n hx hb dX9_tries_90 rfl (lv_at hl 0 rfl) ?_
          refine k_get hx hb hts hi9 hown hK hP 0 rfl rfl 34 (by decide) hf53 (.ref (r 34)) rfl dX9_tries_91 ?_
          refine lv_iconst (v := 0) hx hb dX9_tries_94 (by decide +kernel) ?_
          refine lv_dup2_11 hx hb dX9_tries_95 rfl rfl ?_
          refine k_iald hx hb hK hP 5 0 rfl rfl 0 (by decide +kernel) (vp_in_iff.mpr (by decide +kernel)) dX9_tries_96 ?_
          refine lv_aload_n hx hb dX9_tries_97 rfl (lv_at hl 0 rfl) ?_
          refine k_get hx hb hts hi9 hown hK hP 0 rfl rfl 21 (by decide) hf136 (.int (M_18 21)) rfl dX9_tries_98 ?_
          refine lv_iadd hx hb dX9_tries_101 ?_
          refine lv_topi (fun z_20 ez_20 => ?_)
          refine k_iast hx hb hK hP hD hS 5 0 rfl rfl 0 (by decide +kernel) (vp_in_iff.mpr (by decide +kernel)) (ws' := [(h, oX9 r M_18 L_5), ((r 5), .inl (cI, 9, .inl (upd (x_8.2.1) input.toNatClampNeg z_16))), ((r 6), .inl (cI, 2, .inl a_2)), ((r 12), .inl (cI, 3, .inl a_19)), ((r 32), .inl (cI, 32, .inl a32)), ((r 34), .inl (cI, 5, .inl (upd (x_8.2.2.2) 0 z_20))), ((r 35), .inl (cI, 11, .inl a_3))]) rfl dX9_tries_102 (fun H locs hP hD hS => ?_)
          refine lv_aload_n hx hb dX9_tries_103 rfl (lv_at hl 0 rfl) ?_
          refine k_get hx hb hts hi9 hown hK hP 0 rfl rfl 34 (by decide) hf53 (.ref (r 34)) rfl dX9_tries_104 ?_
          refine lv_iconst (v := 4) hx hb dX9_tries_107 (by decide +kernel) ?_
          refine lv_dup2_11 hx hb dX9_tries_108 rfl rfl ?_
          refine k_iald hx hb hK hP 5 0 rfl rfl 4 (by decide +kernel) (vp_in_iff.mpr (by decide +kernel)) dX9_tries_109 ?_
          refine lv_aload_n hx hb dX9_tries_110 rfl (lv_at hl 0 rfl) ?_
          refine k_get hx hb hts hi9 hown hK hP 0 rfl rfl 22 (by decide) hf139 (.int (M_18 22)) rfl dX9_tries_111 ?_
          refine lv_iadd hx hb dX9_tries_114 ?_
          refine lv_topi (fun z_21 ez_21 => ?_)
          refine k_iast hx hb hK hP hD hS 5 0 rfl rfl 4 (by decide +kernel) (vp_in_iff.mpr (by decide +kernel)) (ws' := [(h, oX9 r M_18 L_5), ((r 5), .inl (cI, 9, .inl (upd (x_8.2.1) input.toNatClampNeg z_16))), ((r 6), .inl (cI, 2, .inl a_2)), ((r 12), .inl (cI, 3, .inl a_19)), ((r 32), .inl (cI, 32, .inl a32)), ((r 34), .inl (cI, 5, .inl (upd (upd (x_8.2.2.2) 0 z_20) 4 z_21))), ((r 35), .inl (cI, 11, .inl a_3))]) rfl dX9_tries_115 (fun H locs hP hD hS => ?_)
          refine lv_aload_n hx hb dX9_tries_116 rfl (lv_at hl 0 rfl) ?_
          refine k_get hx hb hts hi9 hown hK hP 0 rfl rfl 19 (by decide) hf127 (.int (M_18 19)) rfl dX9_tries_117 ?_
          refine lv_bipush (v := (-9)) hx hb dX9_tries_120 (by decide +kernel) ?_
          have J_23 : ∀ z_22 : Nat → Int32, z_22 = (if (M_18 19) = (-9) then (upd (upd (x_8.2.2.2) 0 z_20) 4 z_21) else (if ((upd (upd (x_8.2.2.2) 0 z_20) 4 z_21) 1) = (-9) then (let z_23 : Int32 := ((nI i_7) + 1); (upd (upd (upd (upd (x_8.2.2.2) 0 z_20) 4 z_21) 1 z_23) 2 (M_18 19))) else (upd (upd (x_8.2.2.2) 0 z_20) 4 z_21))) → ∀ (H : Heap) (locs : List Loc), va_P D vwCl [(h, oX9 r M_18 L_5), ((r 5), .inl (cI, 9, .inl (upd (x_8.2.1) input.toNatClampNeg z_16))), ((r 6), .inl (cI, 2, .inl a_2)), ((r 12), .inl (cI, 3, .inl a_19)), ((r 32), .inl (cI, 32, .inl a32)), ((r 34), .inl (cI, 5, .inl z_22)), ((r 35), .inl (cI, 11, .inl a_3))] H → va_D A [(h, oX9 r M_18 L_5), ((r 5), .inl (cI, 9, .inl (upd (x_8.2.1) input.toNatClampNeg z_16))), ((r 6), .inl (cI, 2, .inl a_2)), ((r 12), .inl (cI, 3, .inl a_19)), ((r 32), .inl (cI, 32, .inl a32)), ((r 34), .inl (cI, 5, .inl z_22)), ((r 35), .inl (cI, 11, .inl a_3))] → va_S A s.heap H locs → ∀ ls : Array Slot, lv_has ls 8 [(0, .ref h), (1, .int input), (2, .int v), (3, .int fr), (4, .long (sp_X9_stateOf M L a12)), (6, .int (M 18)), (7, .int (nI i_7))] → W p l e (RM 3) s m ([.ref h, .int input, .int v, .int fr] : List Value).toArray below meth c H locs 0 0 Q (F0 m 156 ls []) := by
            intro z_22 ez_22 H locs hP hD hS ls hl
            refine lv_iinc (v := (nI (i_7 + 1))) (lv' := [(7, .int (nI (i_7 + 1))), (0, .ref h), (1, .int input), (2, .int v), (3, .int fr), (4, .long (sp_X9_stateOf M L a12)), (6, .int (M 18))]) hx hb dX9_tries_156 hl (k := 6) rfl (nI_1 i_7) (by decide) rfl (fun ls hl => ?_)
            refine lv_goto (tgt := 53) hx hb dX9_tries_159 (by decide) ?_
            exact ih_x_8 (i_7 + 1) (M_18, (upd (x_8.2.1) input.toNatClampNeg z_16), a_19, z_22) (by omega) (by omega) (by subst ez_22; subst ez_21; subst ez_20; subst ea_19; subst eM_18; subst ez_16; rw [show lp fx_8 (i_7 + 1) (M_4, a_1, a_6, (upd (upd (upd (upd a34 0 0) 1 (-9)) 2 (-9)) 4 0)) = fx_8 i_7 (lp fx_8 i_7 (M_4, a_1, a_6, (upd (upd (upd (upd a34 0 0) 1 (-9)) 2 (-9)) 4 0))) from rfl, ← ex_x_8, hfx_8]; try (first | (rfl; done) | rfl)) (by show M_18 33 = M 33; rw [eM_18]; exact (tickBy_fr _ _ _ _ _ _ 33 (by omega)).trans hv_x_8) _ _ hP hD hS _ (lv_sub hl [1, 2, 3, 4, 5, 6, 0] rfl)
          refine lv_icmp_eq (tgt := 156) hx hb dX9_tries_122 (by decide) (fun c_24 => ?_) (fun c_24 => ?_)
          · skip
            exact J_23 (upd (upd (x_8.2.2.2) 0 z_20) 4 z_21) (by first | (simp only [if_pos c_24]; done) | rfl) _ _ hP hD hS _ (lv_sub hl [0, 1, 2, 3, 4, 5, 6] rfl)
          · skip
            refine lv_aload_n hx hb dX9_tries_125 rfl (lv_at hl 0 rfl) ?_
            refine k_get hx hb hts hi9 hown hK hP 0 rfl rfl 34 (by decide) hf53 (.ref (r 34)) rfl dX9_tries_126 ?_
            refine lv_iconst (v := 1) hx hb dX9_tries_129 (by decide +kernel) ?_
            refine k_iald hx hb hK hP 5 0 rfl rfl 1 (by decide +kernel) (vp_in_iff.mpr (by decide +kernel)) dX9_tries_130 ?_
            refine lv_bipush (v := (-9)) hx hb dX9_tries_131 (by decide +kernel) ?_
            refine lv_icmp_ne (tgt := 156) hx hb dX9_tries_133 (by decide) (fun c_25 => ?_) (fun c_25 => ?_)
            · skip
              exact J_23 (upd (upd (x_8.2.2.2) 0 z_20) 4 z_21) (by first | (simp only [if_neg c_24, if_neg c_25]; done) | rfl) _ _ hP hD hS _ (lv_sub hl [0, 1, 2, 3, 4, 5, 6] rfl)
            · skip
              refine lv_aload_n hx hb dX9_tries_136 rfl (lv_at hl 0 rfl) ?_
              refine k_get hx hb hts hi9 hown hK hP 0 rfl rfl 34 (by decide) hf53 (.ref (r 34)) rfl dX9_tries_137 ?_
              refine lv_iconst (v := 1) hx hb dX9_tries_140 (by decide +kernel) ?_
              refine lv_iload hx hb dX9_tries_141 (lv_at hl 6 rfl) ?_
              refine lv_iconst (v := 1) hx hb dX9_tries_143 (by decide +kernel) ?_
              refine lv_iadd hx hb dX9_tries_144 ?_
              refine lv_topi (fun z_26 ez_26 => ?_)
              refine k_iast hx hb hK hP hD hS 5 0 rfl rfl 1 (by decide +kernel) (vp_in_iff.mpr (by decide +kernel)) (ws' := [(h, oX9 r M_18 L_5), ((r 5), .inl (cI, 9, .inl (upd (x_8.2.1) input.toNatClampNeg z_16))), ((r 6), .inl (cI, 2, .inl a_2)), ((r 12), .inl (cI, 3, .inl a_19)), ((r 32), .inl (cI, 32, .inl a32)), ((r 34), .inl (cI, 5, .inl (upd (upd (upd (x_8.2.2.2) 0 z_20) 4 z_21) 1 z_26))), ((r 35), .inl (cI, 11, .inl a_3))]) rfl dX9_tries_145 (fun H locs hP hD hS => ?_)
              refine lv_aload_n hx hb dX9_tries_146 rfl (lv_at hl 0 rfl) ?_
              refine k_get hx hb hts hi9 hown hK hP 0 rfl rfl 34 (by decide) hf53 (.ref (r 34)) rfl dX9_tries_147 ?_
              refine lv_iconst (v := 2) hx hb dX9_tries_150 (by decide +kernel) ?_
              refine lv_aload_n hx hb dX9_tries_151 rfl (lv_at hl 0 rfl) ?_
              refine k_get hx hb hts hi9 hown hK hP 0 rfl rfl 19 (by decide) hf127 (.int (M_18 19)) rfl dX9_tries_152 ?_
              refine k_iast hx hb hK hP hD hS 5 0 rfl rfl 2 (by decide +kernel) (vp_in_iff.mpr (by decide +kernel)) (ws' := [(h, oX9 r M_18 L_5), ((r 5), .inl (cI, 9, .inl (upd (x_8.2.1) input.toNatClampNeg z_16))), ((r 6), .inl (cI, 2, .inl a_2)), ((r 12), .inl (cI, 3, .inl a_19)), ((r 32), .inl (cI, 32, .inl a32)), ((r 34), .inl (cI, 5, .inl (upd (upd (upd (upd (x_8.2.2.2) 0 z_20) 4 z_21) 1 z_26) 2 (M_18 19)))), ((r 35), .inl (cI, 11, .inl a_3))]) rfl dX9_tries_155 (fun H locs hP hD hS => ?_)
              exact J_23 (upd (upd (upd (upd (x_8.2.2.2) 0 z_20) 4 z_21) 1 z_26) 2 (M_18 19)) (by subst ez_26; first | (simp only [if_neg c_24, if_pos c_25]; done) | rfl) _ _ hP hD hS _ (lv_sub hl [0, 1, 2, 3, 4, 5, 6] rfl)
        refine lv_icmp_lt (tgt := 77) hx hb dX9_tries_70 (by decide) (fun c_27 => ?_) (fun c_27 => ?_)
        · skip
          refine lv_iconst (v := 2) hx hb dX9_tries_77 (by decide +kernel) ?_
          exact J_17 2 (by first | (simp only [if_pos c_27]; done) | rfl) _ _ hP hD hS _ (lv_sub hl [0, 1, 2, 3, 4, 5, 6] rfl)
        · skip
          refine lv_iload_n hx hb dX9_tries_73 rfl (lv_at hl 2 rfl) ?_
          refine lv_goto (tgt := 78) hx hb dX9_tries_74 (by decide) ?_
          exact J_17 v (by first | (simp only [if_neg c_27]; done) | rfl) _ _ hP hD hS _ (lv_sub hl [0, 1, 2, 3, 4, 5, 6] rfl)
  exact Lx_8 ((M 33).toNatClampNeg + 1) 0 (M_4, a_1, a_6, (upd (upd (upd (upd a34 0 0) 1 (-9)) 2 (-9)) 4 0)) (by omega) (Nat.zero_le _) rfl (by show M_4 33 = M 33; rw [eM_4]; exact begins_fr _ _ _ 33 (by omega)) _ _ hP hD hS _ (lv_sub hl [3, 4, 5, 6, 2, 1, 0] rfl)

def sp_X9_trial (M : Nat → Int32) (L : Int64) (a5 : Nat → Int32) (a6 : Nat → Int32) (a12 : Nat → Int32) (a32 : Nat → Int32) (a34 : Nat → Int32) (a35 : Nat → Int32) (input : Int32) (v : Int32) (fr : Int32) (what : Int32) : Int32 × (Nat → Int32) × (Int64) × (Nat → Int32) × (Nat → Int32) × (Nat → Int32) × (Nat → Int32) × (Nat → Int32) :=
  (if (sp_X9_within input 0 8) = 0 then
    ((-1), M, L, a5, a6, a12, a34, a35)
  else
    (if (sp_X9_within v 0 1) = 0 then
      ((-2), M, L, a5, a6, a12, a34, a35)
    else
      (if (sp_X9_within fr 0 (M 33)) = 0 then
        ((-2), M, L, a5, a6, a12, a34, a35)
      else
        (if (sp_X9_within what 0 4) = 0 then
          ((-2), M, L, a5, a6, a12, a34, a35)
        else
          let M_5 : Nat → Int32 := ((sp_X9_tries M L a5 a6 a12 a32 a34 a35 input v fr).1)
          let L_6 : Int64 := ((sp_X9_tries M L a5 a6 a12 a32 a34 a35 input v fr).2.1)
          let a_7 : Nat → Int32 := ((sp_X9_tries M L a5 a6 a12 a32 a34 a35 input v fr).2.2.1)
          let a_8 : Nat → Int32 := ((sp_X9_tries M L a5 a6 a12 a32 a34 a35 input v fr).2.2.2.1)
          let a_9 : Nat → Int32 := ((sp_X9_tries M L a5 a6 a12 a32 a34 a35 input v fr).2.2.2.2.1)
          let a_10 : Nat → Int32 := ((sp_X9_tries M L a5 a6 a12 a32 a34 a35 input v fr).2.2.2.2.2.1)
          let a_11 : Nat → Int32 := ((sp_X9_tries M L a5 a6 a12 a32 a34 a35 input v fr).2.2.2.2.2.2)
          ((a_10 what.toNatClampNeg), M_5, L_6, a_7, a_8, a_9, a_10, a_11)))))
set_option maxRecDepth 100000 in
theorem sq_X9_trial_1 (M : Nat → Int32) (L : Int64) (a5 : Nat → Int32) (a6 : Nat → Int32) (a12 : Nat → Int32) (a32 : Nat → Int32) (a34 : Nat → Int32) (a35 : Nat → Int32) (input : Int32) (v : Int32) (fr : Int32) (what : Int32) (M_5 : Nat → Int32) (L_6 : Int64) (a_7 : Nat → Int32) (a_8 : Nat → Int32) (a_9 : Nat → Int32) (a_10 : Nat → Int32) (a_11 : Nat → Int32) (eM_5 : M_5 = ((sp_X9_tries M L a5 a6 a12 a32 a34 a35 input v fr).1)) (eL_6 : L_6 = ((sp_X9_tries M L a5 a6 a12 a32 a34 a35 input v fr).2.1)) (ea_7 : a_7 = ((sp_X9_tries M L a5 a6 a12 a32 a34 a35 input v fr).2.2.1)) (ea_8 : a_8 = ((sp_X9_tries M L a5 a6 a12 a32 a34 a35 input v fr).2.2.2.1)) (ea_9 : a_9 = ((sp_X9_tries M L a5 a6 a12 a32 a34 a35 input v fr).2.2.2.2.1)) (ea_10 : a_10 = ((sp_X9_tries M L a5 a6 a12 a32 a34 a35 input v fr).2.2.2.2.2.1)) (ea_11 : a_11 = ((sp_X9_tries M L a5 a6 a12 a32 a34 a35 input v fr).2.2.2.2.2.2)) (c_1 : ¬ ((sp_X9_within input 0 8) = 0)) (c_2 : ¬ ((sp_X9_within v 0 1) = 0)) (c_3 : ¬ ((sp_X9_within fr 0 (M 33)) = 0)) (c_4 : ¬ ((sp_X9_within what 0 4) = 0)) : sp_X9_trial M L a5 a6 a12 a32 a34 a35 input v fr what = ((a_10 what.toNatClampNeg), M_5, L_6, a_7, a_8, a_9, a_10, a_11) := by subst ea_11; subst ea_10; subst ea_9; subst ea_8; subst ea_7; subst eL_6; subst eM_5; simp only [sp_X9_trial, if_neg c_1, if_neg c_2, if_neg c_3, if_neg c_4]
set_option maxHeartbeats 4000000 in
set_option maxRecDepth 100000 in
theorem c_X9_trial (l : Launch) (D : va_G) (cI cJ cO : ClassId) (h : Nat) (r : Nat → Nat) (M : Nat → Int32) (L : Int64) (a5 : Nat → Int32) (a6 : Nat → Int32) (a12 : Nat → Int32) (a32 : Nat → Int32) (a34 : Nat → Int32) (a35 : Nat → Int32) (input : Int32) (v : Int32) (fr : Int32) (what : Int32) (h0 : ¬ M 33 < 0) (h32 : (M 33).toNatClampNeg ≤ 32) : MI l D (TY cI cJ cO) yX9_trial wsX9_trial (RM 4) [.ref h, .int input, .int v, .int fr, .int what] [(h, oX9 r M L), ((r 5), .inl (cI, 9, .inl a5)), ((r 6), .inl (cI, 2, .inl a6)), ((r 12), .inl (cI, 3, .inl a12)), ((r 32), .inl (cI, 32, .inl a32)), ((r 34), .inl (cI, 5, .inl a34)), ((r 35), .inl (cI, 11, .inl a35))] ((sp_X9_trial M L a5 a6 a12 a32 a34 a35 input v fr what).1) [(h, oX9 r ((sp_X9_trial M L a5 a6 a12 a32 a34 a35 input v fr what).2.1) ((sp_X9_trial M L a5 a6 a12 a32 a34 a35 input v fr what).2.2.1)), ((r 5), .inl (cI, 9, .inl ((sp_X9_trial M L a5 a6 a12 a32 a34 a35 input v fr what).2.2.2.1))), ((r 6), .inl (cI, 2, .inl ((sp_X9_trial M L a5 a6 a12 a32 a34 a35 input v fr what).2.2.2.2.1))), ((r 12), .inl (cI, 3, .inl ((sp_X9_trial M L a5 a6 a12 a32 a34 a35 input v fr what).2.2.2.2.2.1))), ((r 32), .inl (cI, 32, .inl a32)), ((r 34), .inl (cI, 5, .inl ((sp_X9_trial M L a5 a6 a12 a32 a34 a35 input v fr what).2.2.2.2.2.2.1))), ((r 35), .inl (cI, 11, .inl ((sp_X9_trial M L a5 a6 a12 a32 a34 a35 input v fr what).2.2.2.2.2.2.2)))] := by
  refine k_entI (cc := cX9_trial) (maxL := 5) (lv := [(0, .ref h), (1, .int input), (2, .int v), (3, .int fr), (4, .int what)]) (by decide +kernel) rfl (Nat.le_of_ble_eq_true rfl) rfl ?_
  intro p e s m below meth c A Q ls hx hb hml hts hown hA hS hP hD hK hN hl hret
  have hown : s.vm.findClass RX9 = some m.cls := hown
  have hi9 : ∀ w ∈ wsX90, w ∈ wsX9_trial := fun w h => List.mem_cons_of_mem _ (List.mem_append_right _ h)
  have hf53 := hts (.fieldLink RX9 53 "PressGuardModel" "results" "[I") (by decide +kernel)
  have hf202 := hts (.fieldLink RX9 202 "PressGuardModel" "steps" "I") (by decide +kernel)
  refine lv_iload_n hx hb dX9_trial_0 rfl (lv_at hl 1 rfl) ?_
  refine lv_iconst (v := 0) hx hb dX9_trial_1 (by decide +kernel) ?_
  refine lv_bipush (v := 8) hx hb dX9_trial_2 (by decide +kernel) ?_
  refine k_Si ⟨hx, hb, hml, hown, hts⟩ (c_X9_within l D cI cJ cO input 0 8) (va_cwS 3 hts gX9_trial_X9_within rfl rfl rfl (by decide +kernel) ⟨Nat.le_of_ble_eq_true rfl, Nat.le_of_ble_eq_true rfl⟩) hK hN hP hD hS hA [] rfl rfl rfl (ws' := [(h, oX9 r M L), ((r 5), .inl (cI, 9, .inl a5)), ((r 6), .inl (cI, 2, .inl a6)), ((r 12), .inl (cI, 3, .inl a12)), ((r 32), .inl (cI, 32, .inl a32)), ((r 34), .inl (cI, 5, .inl a34)), ((r 35), .inl (cI, 11, .inl a35))]) rfl rfl hl.1 rfl (Nat.le_of_ble_eq_true rfl) dX9_trial_4 ⟨Nat.le_refl _, Nat.le_refl _⟩ (fun H locs hP hD hS => ?_)
  refine lv_if_ne (tgt := 12) hx hb dX9_trial_7 (by decide) (fun c_1 => ?_) (fun c_1 => ?_)
  · skip
    refine lv_iload_n hx hb dX9_trial_12 rfl (lv_at hl 2 rfl) ?_
    refine lv_iconst (v := 0) hx hb dX9_trial_13 (by decide +kernel) ?_
    refine lv_iconst (v := 1) hx hb dX9_trial_14 (by decide +kernel) ?_
    refine k_Si ⟨hx, hb, hml, hown, hts⟩ (c_X9_within l D cI cJ cO v 0 1) (va_cwS 3 hts gX9_trial_X9_within rfl rfl rfl (by decide +kernel) ⟨Nat.le_of_ble_eq_true rfl, Nat.le_of_ble_eq_true rfl⟩) hK hN hP hD hS hA [] rfl rfl rfl (ws' := [(h, oX9 r M L), ((r 5), .inl (cI, 9, .inl a5)), ((r 6), .inl (cI, 2, .inl a6)), ((r 12), .inl (cI, 3, .inl a12)), ((r 32), .inl (cI, 32, .inl a32)), ((r 34), .inl (cI, 5, .inl a34)), ((r 35), .inl (cI, 11, .inl a35))]) rfl rfl hl.1 rfl (Nat.le_of_ble_eq_true rfl) dX9_trial_15 ⟨Nat.le_refl _, Nat.le_refl _⟩ (fun H locs hP hD hS => ?_)
    refine lv_if_eq (tgt := 43) hx hb dX9_trial_18 (by decide) (fun c_2 => ?_) (fun c_2 => ?_)
    · skip
      refine lv_bipush (v := (-2)) hx hb dX9_trial_43 (by decide +kernel) ?_
      have hsp : sp_X9_trial M L a5 a6 a12 a32 a34 a35 input v fr what = ((-2), M, L, a5, a6, a12, a34, a35) := by simp only [sp_X9_trial, if_neg c_1, if_pos c_2]
      exact hret _ _ _ _ _ (by rw [hsp]) rfl (by rw [hsp]; exact hP) hS dX9_trial_45
    · skip
      refine lv_iload_n hx hb dX9_trial_21 rfl (lv_at hl 3 rfl) ?_
      refine lv_iconst (v := 0) hx hb dX9_trial_22 (by decide +kernel) ?_
      refine lv_aload_n hx hb dX9_trial_23 rfl (lv_at hl 0 rfl) ?_
      refine k_get hx hb hts hi9 hown hK hP 0 rfl rfl 33 (by decide) hf202 (.int (M 33)) rfl dX9_trial_24 ?_
      refine k_Si ⟨hx, hb, hml, hown, hts⟩ (c_X9_within l D cI cJ cO fr 0 (M 33)) (va_cwS 3 hts gX9_trial_X9_within rfl rfl rfl (by decide +kernel) ⟨Nat.le_of_ble_eq_true rfl, Nat.le_of_ble_eq_true rfl⟩) hK hN hP hD hS hA [] rfl rfl rfl (ws' := [(h, oX9 r M L), ((r 5), .inl (cI, 9, .inl a5)), ((r 6), .inl (cI, 2, .inl a6)), ((r 12), .inl (cI, 3, .inl a12)), ((r 32), .inl (cI, 32, .inl a32)), ((r 34), .inl (cI, 5, .inl a34)), ((r 35), .inl (cI, 11, .inl a35))]) rfl rfl hl.1 rfl (Nat.le_of_ble_eq_true rfl) dX9_trial_27 ⟨Nat.le_refl _, Nat.le_refl _⟩ (fun H locs hP hD hS => ?_)
      refine lv_if_eq (tgt := 43) hx hb dX9_trial_30 (by decide) (fun c_3 => ?_) (fun c_3 => ?_)
      · skip
        refine lv_bipush (v := (-2)) hx hb dX9_trial_43 (by decide +kernel) ?_
        have hsp : sp_X9_trial M L a5 a6 a12 a32 a34 a35 input v fr what = ((-2), M, L, a5, a6, a12, a34, a35) := by simp only [sp_X9_trial, if_neg c_1, if_neg c_2, if_pos c_3]
        exact hret _ _ _ _ _ (by rw [hsp]) rfl (by rw [hsp]; exact hP) hS dX9_trial_45
      · skip
        refine lv_iload hx hb dX9_trial_33 (lv_at hl 4 rfl) ?_
        refine lv_iconst (v := 0) hx hb dX9_trial_35 (by decide +kernel) ?_
        refine lv_iconst (v := 4) hx hb dX9_trial_36 (by decide +kernel) ?_
        refine k_Si ⟨hx, hb, hml, hown, hts⟩ (c_X9_within l D cI cJ cO what 0 4) (va_cwS 3 hts gX9_trial_X9_within rfl rfl rfl (by decide +kernel) ⟨Nat.le_of_ble_eq_true rfl, Nat.le_of_ble_eq_true rfl⟩) hK hN hP hD hS hA [] rfl rfl rfl (ws' := [(h, oX9 r M L), ((r 5), .inl (cI, 9, .inl a5)), ((r 6), .inl (cI, 2, .inl a6)), ((r 12), .inl (cI, 3, .inl a12)), ((r 32), .inl (cI, 32, .inl a32)), ((r 34), .inl (cI, 5, .inl a34)), ((r 35), .inl (cI, 11, .inl a35))]) rfl rfl hl.1 rfl (Nat.le_of_ble_eq_true rfl) dX9_trial_37 ⟨Nat.le_refl _, Nat.le_refl _⟩ (fun H locs hP hD hS => ?_)
        refine lv_if_ne (tgt := 46) hx hb dX9_trial_40 (by decide) (fun c_4 => ?_) (fun c_4 => ?_)
        · skip
          refine lv_aload_n hx hb dX9_trial_46 rfl (lv_at hl 0 rfl) ?_
          refine lv_iload_n hx hb dX9_trial_47 rfl (lv_at hl 1 rfl) ?_
          refine lv_iload_n hx hb dX9_trial_48 rfl (lv_at hl 2 rfl) ?_
          refine lv_iload_n hx hb dX9_trial_49 rfl (lv_at hl 3 rfl) ?_
          obtain ⟨M_5, eM_5⟩ : ∃ q : Nat → Int32, q = ((sp_X9_tries M L a5 a6 a12 a32 a34 a35 input v fr).1) := ⟨_, rfl⟩
          obtain ⟨L_6, eL_6⟩ : ∃ q : Int64, q = ((sp_X9_tries M L a5 a6 a12 a32 a34 a35 input v fr).2.1) := ⟨_, rfl⟩
          obtain ⟨a_7, ea_7⟩ : ∃ q : Nat → Int32, q = ((sp_X9_tries M L a5 a6 a12 a32 a34 a35 input v fr).2.2.1) := ⟨_, rfl⟩
          obtain ⟨a_8, ea_8⟩ : ∃ q : Nat → Int32, q = ((sp_X9_tries M L a5 a6 a12 a32 a34 a35 input v fr).2.2.2.1) := ⟨_, rfl⟩
          obtain ⟨a_9, ea_9⟩ : ∃ q : Nat → Int32, q = ((sp_X9_tries M L a5 a6 a12 a32 a34 a35 input v fr).2.2.2.2.1) := ⟨_, rfl⟩
          obtain ⟨a_10, ea_10⟩ : ∃ q : Nat → Int32, q = ((sp_X9_tries M L a5 a6 a12 a32 a34 a35 input v fr).2.2.2.2.2.1) := ⟨_, rfl⟩
          obtain ⟨a_11, ea_11⟩ : ∃ q : Nat → Int32, q = ((sp_X9_tries M L a5 a6 a12 a32 a34 a35 input v fr).2.2.2.2.2.2) := ⟨_, rfl⟩
          refine k_Vv ⟨hx, hb, hml, hown, hts⟩ (c_X9_tries l D cI cJ cO h r M L a5 a6 a12 a32 a34 a35 input v fr (wi_in c_1 (by decide)) h0 h32) (ci := 9) (q0 := 0) rfl rfl (cwV 3 hts gX9_trial_X9_tries rfl rfl rfl (by decide +kernel) ⟨Nat.le_of_ble_eq_true rfl, Nat.le_of_ble_eq_true rfl⟩) hK hN hP hD hS hA [0, 1, 2, 3, 4, 5, 6] rfl rfl rfl (ws' := [(h, oX9 r M_5 L_6), ((r 5), .inl (cI, 9, .inl a_7)), ((r 6), .inl (cI, 2, .inl a_8)), ((r 12), .inl (cI, 3, .inl a_9)), ((r 32), .inl (cI, 32, .inl a32)), ((r 34), .inl (cI, 5, .inl a_10)), ((r 35), .inl (cI, 11, .inl a_11))]) (by rw [eM_5, eL_6, ea_7, ea_8, ea_9, ea_10, ea_11]; rfl) rfl hl.1 rfl (Nat.le_of_ble_eq_true rfl) dX9_trial_50 ⟨Nat.le_refl _, Nat.le_refl _⟩ (fun H locs hP hD hS => ?_)
          refine lv_aload_n hx hb dX9_trial_53 rfl (lv_at hl 0 rfl) ?_
          refine k_get hx hb hts hi9 hown hK hP 0 rfl rfl 34 (by decide) hf53 (.ref (r 34)) rfl dX9_trial_54 ?_
          refine lv_iload hx hb dX9_trial_57 (lv_at hl 4 rfl) ?_
          refine k_iald hx hb hK hP 5 0 rfl rfl what.toNatClampNeg (rfl) (wi_in c_4 (by decide)) dX9_trial_59 ?_
          have hsp : sp_X9_trial M L a5 a6 a12 a32 a34 a35 input v fr what = ((a_10 what.toNatClampNeg), M_5, L_6, a_7, a_8, a_9, a_10, a_11) := sq_X9_trial_1 M L a5 a6 a12 a32 a34 a35 input v fr what M_5 L_6 a_7 a_8 a_9 a_10 a_11 eM_5 eL_6 ea_7 ea_8 ea_9 ea_10 ea_11 c_1 c_2 c_3 c_4
          exact hret _ _ _ _ _ (by rw [hsp]) rfl (by rw [hsp]; exact hP) hS dX9_trial_60
        · skip
          refine lv_bipush (v := (-2)) hx hb dX9_trial_43 (by decide +kernel) ?_
          have hsp : sp_X9_trial M L a5 a6 a12 a32 a34 a35 input v fr what = ((-2), M, L, a5, a6, a12, a34, a35) := by simp only [sp_X9_trial, if_neg c_1, if_neg c_2, if_neg c_3, if_pos c_4]
          exact hret _ _ _ _ _ (by rw [hsp]) rfl (by rw [hsp]; exact hP) hS dX9_trial_45
  · skip
    refine lv_iconst (v := (-1)) hx hb dX9_trial_10 (by decide +kernel) ?_
    have hsp : sp_X9_trial M L a5 a6 a12 a32 a34 a35 input v fr what = ((-1), M, L, a5, a6, a12, a34, a35) := by simp only [sp_X9_trial, if_pos c_1]
    exact hret _ _ _ _ _ (by rw [hsp]) rfl (by rw [hsp]; exact hP) hS dX9_trial_11
