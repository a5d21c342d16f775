def bd_J7_fill_53178_5 (val : Int32) (i_1 : Nat) (x_2 : (Nat → Int32)) : (Nat → Int32) :=
  (upd x_2 i_1 val)
def sp_J7_fill_53178 (n : Nat) (f : Nat → Int32) (val : Int32) : (Nat → Int32) :=
  let x_2 : (Nat → Int32) := lp (bd_J7_fill_53178_5 val) n f
  x_2
set_option maxRecDepth 100000 in
theorem sq_J7_fill_53178_1 (n : Nat) (f : Nat → Int32) (val : Int32) (x_2 : (Nat → Int32)) (ex_2 : x_2 = lp (bd_J7_fill_53178_5 val) n f) : sp_J7_fill_53178 n f val = x_2 := by subst ex_2; rfl
set_option maxHeartbeats 4000000 in
set_option maxRecDepth 100000 in
theorem c_J7_fill_53178 (l : Launch) (D : va_G) (cI cJ cO : ClassId) (a : Nat) (n : Nat) (f : Nat → Int32) (val : Int32) (hn : n < 2 ^ 31) : MV l D (TY cI cJ cO) yJ7_fill_53178 wsJ7_fill_53178 (RM 0) [.ref a, .int val] [(a, .inl (cI, n, .inl f))] [(a, .inl (cI, n, .inl (sp_J7_fill_53178 n f val)))] := by
  refine k_entV (cc := cJ7_fill_53178) (maxL := 4) (lv := [(0, .ref a), (1, .int val)]) (by decide +kernel) rfl (Nat.le_of_ble_eq_true rfl) rfl ?_
  intro p e s m below meth c A Q ls hx hb hml hts hown hA hS hP hD hK hN hl hret
  have hown : s.vm.findClass RJ7 = some m.cls := hown
  refine lv_iconst (v := 0) hx hb dJ7_fill_53178_0 (by decide +kernel) ?_
  refine lv_istore_n (lv' := [(2, .int 0), (0, .ref a), (1, .int val)]) hx hb dJ7_fill_53178_1 rfl hl (by decide) rfl (fun ls hl => ?_)
  refine lv_aload_n hx hb dJ7_fill_53178_2 rfl (lv_at hl 1 rfl) ?_
  refine va_alen hx hb hK hP 0 0 rfl rfl (v := (nI n)) (rfl) dJ7_fill_53178_3 ?_
  refine lv_istore_n (lv' := [(3, .int (nI n)), (2, .int 0), (0, .ref a), (1, .int val)]) hx hb dJ7_fill_53178_4 rfl hl (by decide) rfl (fun ls hl => ?_)
  obtain ⟨fx_2, hfx_2⟩ : ∃ f : Nat → (Nat → Int32) → (Nat → Int32), f = (bd_J7_fill_53178_5 val) := ⟨_, rfl⟩
  have hB_x_2 : (nI n) = nI n := rfl
  have hN_x_2 : n < 2 ^ 31 := hn
  have Lx_2 : ∀ (nn i_1 : Nat) (x_2 : (Nat → Int32)), n + 1 ≤ i_1 + nn → i_1 ≤ n → x_2 = lp fx_2 i_1 f → ∀ (H : Heap) (locs : List Loc), va_P D vwCl [(a, .inl (cI, n, .inl x_2))] H → va_D A [(a, .inl (cI, n, .inl x_2))] → va_S A s.heap H locs → ∀ ls : Array Slot, lv_has ls 4 [(0, .ref a), (1, .int val), (2, .int (nI i_1)), (3, .int (nI n))] → W p l e (RM 0) s m ([.ref a, .int val] : List Value).toArray below meth c H locs 0 0 Q (F0 m 5 ls []) := by
    intro nn_x_2
    induction nn_x_2 with
    | zero => intro i_1 x_2 h1 h2; exact absurd h1 (by omega)
    | succ nn_x_2 ih_x_2 =>
      intro i_1 x_2 hn_x_2 hi_i_1 ex_x_2 H locs hP hD hS ls hl
      refine lv_iload_n hx hb dJ7_fill_53178_5 rfl (lv_at hl 2 rfl) ?_
      refine lv_iload_n hx hb dJ7_fill_53178_6 rfl (lv_at hl 3 rfl) ?_
      refine lv_icmp_ge (tgt := 20) hx hb dJ7_fill_53178_7 (by decide) (fun c_3 => ?_) (fun c_3 => ?_)
      · skip
        have hq_x_2 : i_1 = n := k_eq hB_x_2 c_3 hi_i_1 hN_x_2
        have ex_2 : x_2 = lp (bd_J7_fill_53178_5 val) n f := by rw [ex_x_2, hfx_2, hq_x_2]
        have hsp : sp_J7_fill_53178 n f val = x_2 := sq_J7_fill_53178_1 n f val x_2 ex_2
        exact hret _ _ _ _ (by rw [hsp]; exact hP) hS dJ7_fill_53178_20
      · skip
        have hlt_i_1 : i_1 < n := k_lt hB_x_2 c_3 hi_i_1 hN_x_2
        refine lv_aload_n hx hb dJ7_fill_53178_10 rfl (lv_at hl 0 rfl) ?_
        refine lv_iload_n hx hb dJ7_fill_53178_11 rfl (lv_at hl 2 rfl) ?_
        refine lv_iload_n hx hb dJ7_fill_53178_12 rfl (lv_at hl 1 rfl) ?_
        refine k_iast hx hb hK hP hD hS 0 0 rfl rfl i_1 (nI_clamp (by omega)) (vp_in_nI (by omega) (by omega)) (ws' := [(a, .inl (cI, n, .inl (upd x_2 i_1 val)))]) rfl dJ7_fill_53178_13 (fun H locs hP hD hS => ?_)
        refine lv_iinc (v := (nI (i_1 + 1))) (lv' := [(2, .int (nI (i_1 + 1))), (0, .ref a), (1, .int val), (3, .int (nI n))]) hx hb dJ7_fill_53178_14 hl (k := 2) rfl (nI_1 i_1) (by decide) rfl (fun ls hl => ?_)
        refine lv_goto (tgt := 5) hx hb dJ7_fill_53178_17 (by decide) ?_
        exact ih_x_2 (i_1 + 1) (upd x_2 i_1 val) (by omega) (by omega) (by rw [show lp fx_2 (i_1 + 1) f = fx_2 i_1 (lp fx_2 i_1 f) from rfl, ← ex_x_2, hfx_2]; try (first | (rfl; done) | rfl)) _ _ hP hD hS _ (lv_sub hl [1, 2, 0, 3] rfl)
  exact Lx_2 (n + 1) 0 f (by omega) (Nat.zero_le _) rfl _ _ hP hD hS _ (lv_sub hl [2, 3, 1, 0] rfl)

def bd_J7_fill_d0a16_6 (val : Int64) (i_1 : Nat) (x_2 : (Nat → Int64)) : (Nat → Int64) :=
  (vp_updL x_2 i_1 val)
def sp_J7_fill_d0a16 (n : Nat) (f : Nat → Int64) (val : Int64) : (Nat → Int64) :=
  let x_2 : (Nat → Int64) := lp (bd_J7_fill_d0a16_6 val) n f
  x_2
set_option maxRecDepth 100000 in
theorem sq_J7_fill_d0a16_1 (n : Nat) (f : Nat → Int64) (val : Int64) (x_2 : (Nat → Int64)) (ex_2 : x_2 = lp (bd_J7_fill_d0a16_6 val) n f) : sp_J7_fill_d0a16 n f val = x_2 := by subst ex_2; rfl
set_option maxHeartbeats 4000000 in
set_option maxRecDepth 100000 in
theorem c_J7_fill_d0a16 (l : Launch) (D : va_G) (cI cJ cO : ClassId) (a : Nat) (n : Nat) (f : Nat → Int64) (val : Int64) (hn : n < 2 ^ 31) : MV l D (TY cI cJ cO) yJ7_fill_d0a16 wsJ7_fill_d0a16 (RM 0) [.ref a, .long val] [(a, .inl (cJ, n, .inr (.inl f)))] [(a, .inl (cJ, n, .inr (.inl (sp_J7_fill_d0a16 n f val))))] := by
  refine k_entV (cc := cJ7_fill_d0a16) (maxL := 5) (lv := [(0, .ref a), (1, .long val)]) (by decide +kernel) rfl (Nat.le_of_ble_eq_true rfl) rfl ?_
  intro p e s m below meth c A Q ls hx hb hml hts hown hA hS hP hD hK hN hl hret
  have hown : s.vm.findClass RJ7 = some m.cls := hown
  refine lv_iconst (v := 0) hx hb dJ7_fill_d0a16_0 (by decide +kernel) ?_
  refine lv_istore_n (lv' := [(3, .int 0), (0, .ref a), (1, .long val)]) hx hb dJ7_fill_d0a16_1 rfl hl (by decide) rfl (fun ls hl => ?_)
  refine lv_aload_n hx hb dJ7_fill_d0a16_2 rfl (lv_at hl 1 rfl) ?_
  refine va_alen hx hb hK hP 0 1 rfl rfl (v := (nI n)) (rfl) dJ7_fill_d0a16_3 ?_
  refine lv_istore (lv' := [(4, .int (nI n)), (3, .int 0), (0, .ref a), (1, .long val)]) hx hb dJ7_fill_d0a16_4 hl (by decide) rfl (fun ls hl => ?_)
  obtain ⟨fx_2, hfx_2⟩ : ∃ f : Nat → (Nat → Int64) → (Nat → Int64), f = (bd_J7_fill_d0a16_6 val) := ⟨_, rfl⟩
  have hB_x_2 : (nI n) = nI n := rfl
  have hN_x_2 : n < 2 ^ 31 := hn
  have Lx_2 : ∀ (nn i_1 : Nat) (x_2 : (Nat → Int64)), n + 1 ≤ i_1 + nn → i_1 ≤ n → x_2 = lp fx_2 i_1 f → ∀ (H : Heap) (locs : List Loc), va_P D vwCl [(a, .inl (cJ, n, .inr (.inl x_2)))] H → va_D A [(a, .inl (cJ, n, .inr (.inl x_2)))] → va_S A s.heap H locs → ∀ ls : Array Slot, lv_has ls 5 [(0, .ref a), (1, .long val), (3, .int (nI i_1)), (4, .int (nI n))] → W p l e (RM 0) s m ([.ref a, .long val] : List Value).toArray below meth c H locs 0 0 Q (F0 m 6 ls []) := by
    intro nn_x_2
    induction nn_x_2 with
    | zero => intro i_1 x_2 h1 h2; exact absurd h1 (by omega)
    | succ nn_x_2 ih_x_2 =>
      intro i_1 x_2 hn_x_2 hi_i_1 ex_x_2 H locs hP hD hS ls hl
      refine lv_iload_n hx hb dJ7_fill_d0a16_6 rfl (lv_at hl 2 rfl) ?_
      refine lv_iload hx hb dJ7_fill_d0a16_7 (lv_at hl 3 rfl) ?_
      refine lv_icmp_ge (tgt := 22) hx hb dJ7_fill_d0a16_9 (by decide) (fun c_3 => ?_) (fun c_3 => ?_)
      · skip
        have hq_x_2 : i_1 = n := k_eq hB_x_2 c_3 hi_i_1 hN_x_2
        have ex_2 : x_2 = lp (bd_J7_fill_d0a16_6 val) n f := by rw [ex_x_2, hfx_2, hq_x_2]
        have hsp : sp_J7_fill_d0a16 n f val = x_2 := sq_J7_fill_d0a16_1 n f val x_2 ex_2
        exact hret _ _ _ _ (by rw [hsp]; exact hP) hS dJ7_fill_d0a16_22
      · skip
        have hlt_i_1 : i_1 < n := k_lt hB_x_2 c_3 hi_i_1 hN_x_2
        refine lv_aload_n hx hb dJ7_fill_d0a16_12 rfl (lv_at hl 0 rfl) ?_
        refine lv_iload_n hx hb dJ7_fill_d0a16_13 rfl (lv_at hl 2 rfl) ?_
        refine lv_lload_n hx hb dJ7_fill_d0a16_14 rfl (lv_at hl 1 rfl) ?_
        refine k_last hx hb hK hP hD hS 0 1 rfl rfl i_1 (nI_clamp (by omega)) (vp_in_nI (by omega) (by omega)) (ws' := [(a, .inl (cJ, n, .inr (.inl (vp_updL x_2 i_1 val))))]) rfl dJ7_fill_d0a16_15 (fun H locs hP hD hS => ?_)
        refine lv_iinc (v := (nI (i_1 + 1))) (lv' := [(3, .int (nI (i_1 + 1))), (0, .ref a), (1, .long val), (4, .int (nI n))]) hx hb dJ7_fill_d0a16_16 hl (k := 2) rfl (nI_1 i_1) (by decide) rfl (fun ls hl => ?_)
        refine lv_goto (tgt := 6) hx hb dJ7_fill_d0a16_19 (by decide) ?_
        exact ih_x_2 (i_1 + 1) (vp_updL x_2 i_1 val) (by omega) (by omega) (by rw [show lp fx_2 (i_1 + 1) f = fx_2 i_1 (lp fx_2 i_1 f) from rfl, ← ex_x_2, hfx_2]; try (first | (rfl; done) | rfl)) _ _ hP hD hS _ (lv_sub hl [1, 2, 0, 3] rfl)
  exact Lx_2 (n + 1) 0 f (by omega) (Nat.zero_le _) rfl _ _ hP hD hS _ (lv_sub hl [2, 3, 1, 0] rfl)

def sp_X3_append (K : Nat → Int32) (k : Nat → Int32) (set : Int32) : (Nat → Int32) × (Nat → Int32) :=
  let z_1 : Nat → Int32 := (if (sp_X8_within (K 1) 0 31) = 0 then K else (let z_1 : Int32 := ((K 1) + 1); (upd K 1 z_1)))
  let z_2 : Nat → Int32 := (if (sp_X8_within (K 1) 0 31) = 0 then k else (upd k ((K 1).toNatClampNeg) set))
  (z_1, z_2)
set_option maxRecDepth 100000 in
theorem sq_X3_append_1 (K : Nat → Int32) (k : Nat → Int32) (set : Int32) (z_1 : Nat → Int32) (z_2 : Nat → Int32) (ez_1 : z_1 = (if (sp_X8_within (K 1) 0 31) = 0 then K else (let z_1 : Int32 := ((K 1) + 1); (upd K 1 z_1)))) (ez_2 : z_2 = (if (sp_X8_within (K 1) 0 31) = 0 then k else (upd k ((K 1).toNatClampNeg) set))) : sp_X3_append K k set = (z_1, z_2) := by subst ez_2; subst ez_1; rfl
set_option maxHeartbeats 4000000 in
set_option maxRecDepth 100000 in
theorem c_X3_append (l : Launch) (D : va_G) (cI cJ cO : ClassId) (h : Nat) (a : Nat) (K : Nat → Int32) (k : Nat → Int32) (set : Int32)  : MV l D (TY cI cJ cO) yX3_append wsX3_append (RM 1) [.ref h, .int set] [(h, oX3 a K), (a, .inl (cI, 32, .inl k))] [(h, oX3 a ((sp_X3_append K k set).1)), (a, .inl (cI, 32, .inl ((sp_X3_append K k set).2)))] := by
  refine k_entV (cc := cX3_append) (maxL := 2) (lv := [(0, .ref h), (1, .int set)]) (by decide +kernel) rfl (Nat.le_of_ble_eq_true rfl) rfl ?_
  intro p e s m below meth c A Q ls hx hb hml hts hown hA hS hP hD hK hN hl hret
  have hown : s.vm.findClass RX3 = some m.cls := hown
  have hi3 : ∀ w ∈ wsX30, w ∈ wsX3_append := fun w h => List.mem_cons_of_mem _ (List.mem_append_right _ h)
  have hf9 := hts (.fieldLink RX3 9 "PressGuard$Script" "sets" "[I") (by decide +kernel)
  have hf15 := hts (.fieldLink RX3 15 "PressGuard$Script" "count" "I") (by decide +kernel)
  refine lv_aload_n hx hb dX3_append_0 rfl (lv_at hl 0 rfl) ?_
  refine k_get hx hb hts hi3 hown hK hP 0 rfl rfl 1 (by decide) hf15 (.int (K 1)) rfl dX3_append_1 ?_
  refine lv_iconst (v := 0) hx hb dX3_append_4 (by decide +kernel) ?_
  refine lv_bipush (v := 31) hx hb dX3_append_5 (by decide +kernel) ?_
  refine k_SNi ⟨hx, hb, hml, hown, hts⟩ (c_X8_within l D cI cJ cO (K 1) 0 31) (va_cnB 3 hts gX3_append_X8_within_n19 rfl rfl rfl (hN.1 2 _ rfl) (hts (.initialized RX8) (by decide +kernel)) (by decide +kernel) ⟨Nat.le_of_ble_eq_true rfl, Nat.le_of_ble_eq_true rfl⟩) (hts (.static yX8_within) (by decide +kernel)) hK hN hP hD hS hA [] rfl rfl rfl (ws' := [(h, oX3 a K), (a, .inl (cI, 32, .inl k))]) rfl rfl hl.1 rfl (Nat.le_of_ble_eq_true rfl) dX3_append_7 ⟨Nat.le_refl _, Nat.le_refl _⟩ (fun H locs hP hD hS => ?_)
  have J_3 : ∀ z_1 : Nat → Int32, z_1 = (if (sp_X8_within (K 1) 0 31) = 0 then K else (let z_1 : Int32 := ((K 1) + 1); (upd K 1 z_1))) → ∀ z_2 : Nat → Int32, z_2 = (if (sp_X8_within (K 1) 0 31) = 0 then k else (upd k ((K 1).toNatClampNeg) set)) → ∀ (H : Heap) (locs : List Loc), va_P D vwCl [(h, oX3 a z_1), (a, .inl (cI, 32, .inl z_2))] H → va_D A [(h, oX3 a z_1), (a, .inl (cI, 32, .inl z_2))] → va_S A s.heap H locs → ∀ ls : Array Slot, lv_has ls 2 [] → W p l e (RM 1) s m ([.ref h, .int set] : List Value).toArray below meth c H locs 0 0 Q (F0 m 33 ls []) := by
    intro z_1 ez_1 z_2 ez_2 H locs hP hD hS ls hl
    have hsp : sp_X3_append K k set = (z_1, z_2) := sq_X3_append_1 K k set z_1 z_2 ez_1 ez_2
    exact hret _ _ _ _ (by rw [hsp]; exact hP) hS dX3_append_33
  refine lv_if_eq (tgt := 33) hx hb dX3_append_10 (by decide) (fun c_4 => ?_) (fun c_4 => ?_)
  · skip
    exact J_3 K (by first | (simp only [if_pos c_4]; done) | rfl) k (by first | (simp only [if_pos c_4]; done) | rfl) _ _ hP hD hS _ (lv_sub hl [] rfl)
  · skip
    refine lv_aload_n hx hb dX3_append_13 rfl (lv_at hl 0 rfl) ?_
    refine k_get hx hb hts hi3 hown hK hP 0 rfl rfl 0 (by decide) hf9 (.ref a) rfl dX3_append_14 ?_
    refine lv_aload_n hx hb dX3_append_17 rfl (lv_at hl 0 rfl) ?_
    refine k_get hx hb hts hi3 hown hK hP 0 rfl rfl 1 (by decide) hf15 (.int (K 1)) rfl dX3_append_18 ?_
    refine lv_iload_n hx hb dX3_append_21 rfl (lv_at hl 1 rfl) ?_
    refine k_iast hx hb hK hP hD hS 1 0 rfl rfl ((K 1).toNatClampNeg) (rfl) (wi_in c_4 (by decide)) (ws' := [(h, oX3 a K), (a, .inl (cI, 32, .inl (upd k ((K 1).toNatClampNeg) set)))]) rfl dX3_append_22 (fun H locs hP hD hS => ?_)
    refine lv_aload_n hx hb dX3_append_23 rfl (lv_at hl 0 rfl) ?_
    refine lv_dup hx hb dX3_append_24 rfl ?_
    refine k_get hx hb hts hi3 hown hK hP 0 rfl rfl 1 (by decide) hf15 (.int (K 1)) rfl dX3_append_25 ?_
    refine lv_iconst (v := 1) hx hb dX3_append_28 (by decide +kernel) ?_
    refine lv_iadd hx hb dX3_append_29 ?_
    refine lv_topi (fun z_5 ez_5 => ?_)
    refine k_put hx hb hts hi3 tyX3_ok nmX3 hown hK hP hD hS 0 rfl rfl 1 (by decide) hf15 rfl (.int z_5) rfl rfl (Nat.le_of_ble_eq_true rfl) (ws' := [(h, oX3 a (upd K 1 z_5)), (a, .inl (cI, 32, .inl (upd k ((K 1).toNatClampNeg) set)))]) rfl dX3_append_30 (fun H locs hP hD hS => ?_)
    exact J_3 (upd K 1 z_5) (by subst ez_5; first | (simp only [if_neg c_4]; done) | rfl) (upd k ((K 1).toNatClampNeg) set) (by subst ez_5; first | (simp only [if_neg c_4]; done) | rfl) _ _ hP hD hS _ (lv_sub hl [] rfl)

def sp_X3_setAt (K : Nat → Int32) (k : Nat → Int32) (k0 : Int32) : Int32 :=
  let z_1 : Int32 := (if (sp_X8_within k0 0 31) = 0 then 0 else (k k0.toNatClampNeg))
  z_1
set_option maxRecDepth 100000 in
theorem sq_X3_setAt_1 (K : Nat → Int32) (k : Nat → Int32) (k0 : Int32) (z_1 : Int32) (ez_1 : z_1 = (if (sp_X8_within k0 0 31) = 0 then 0 else (k k0.toNatClampNeg))) : sp_X3_setAt K k k0 = z_1 := by subst ez_1; rfl
set_option maxHeartbeats 4000000 in
set_option maxRecDepth 100000 in
theorem c_X3_setAt (l : Launch) (D : va_G) (cI cJ cO : ClassId) (h : Nat) (a : Nat) (K : Nat → Int32) (k : Nat → Int32) (k0 : Int32)  : MI l D (TY cI cJ cO) yX3_setAt wsX3_setAt (RM 1) [.ref h, .int k0] [(h, oX3 a K), (a, .inl (cI, 32, .inl k))] (sp_X3_setAt K k k0) [(h, oX3 a K), (a, .inl (cI, 32, .inl k))] := by
  refine k_entI (cc := cX3_setAt) (maxL := 2) (lv := [(0, .ref h), (1, .int k0)]) (by decide +kernel) rfl (Nat.le_of_ble_eq_true rfl) rfl ?_
  intro p e s m below meth c A Q ls hx hb hml hts hown hA hS hP hD hK hN hl hret
  have hown : s.vm.findClass RX3 = some m.cls := hown
  have hi3 : ∀ w ∈ wsX30, w ∈ wsX3_setAt := fun w h => List.mem_cons_of_mem _ (List.mem_append_right _ h)
  have hf9 := hts (.fieldLink RX3 9 "PressGuard$Script" "sets" "[I") (by decide +kernel)
  refine lv_iload_n hx hb dX3_setAt_0 rfl (lv_at hl 1 rfl) ?_
  refine lv_iconst (v := 0) hx hb dX3_setAt_1 (by decide +kernel) ?_
  refine lv_bipush (v := 31) hx hb dX3_setAt_2 (by decide +kernel) ?_
  refine k_SNi ⟨hx, hb, hml, hown, hts⟩ (c_X8_within l D cI cJ cO k0 0 31) (va_cnB 3 hts gX3_setAt_X8_within_n19 rfl rfl rfl (hN.1 2 _ rfl) (hts (.initialized RX8) (by decide +kernel)) (by decide +kernel) ⟨Nat.le_of_ble_eq_true rfl, Nat.le_of_ble_eq_true rfl⟩) (hts (.static yX8_within) (by decide +kernel)) hK hN hP hD hS hA [] rfl rfl rfl (ws' := [(h, oX3 a K), (a, .inl (cI, 32, .inl k))]) rfl rfl hl.1 rfl (Nat.le_of_ble_eq_true rfl) dX3_setAt_4 ⟨Nat.le_refl _, Nat.le_refl _⟩ (fun H locs hP hD hS => ?_)
  have J_2 : ∀ z_1 : Int32, z_1 = (if (sp_X8_within k0 0 31) = 0 then 0 else (k k0.toNatClampNeg)) → ∀ (H : Heap) (locs : List Loc), va_P D vwCl [(h, oX3 a K), (a, .inl (cI, 32, .inl k))] H → va_D A [(h, oX3 a K), (a, .inl (cI, 32, .inl k))] → va_S A s.heap H locs → ∀ ls : Array Slot, lv_has ls 2 [] → W p l e (RM 1) s m ([.ref h, .int k0] : List Value).toArray below meth c H locs 0 0 Q (F0 m 20 ls [.int z_1]) := by
    intro z_1 ez_1 H locs hP hD hS ls hl
    have hsp : sp_X3_setAt K k k0 = z_1 := sq_X3_setAt_1 K k k0 z_1 ez_1
    exact hret _ _ _ _ _ (by rw [hsp]) rfl hP hS dX3_setAt_20
  refine lv_if_eq (tgt := 19) hx hb dX3_setAt_7 (by decide) (fun c_3 => ?_) (fun c_3 => ?_)
  · skip
    refine lv_iconst (v := 0) hx hb dX3_setAt_19 (by decide +kernel) ?_
    exact J_2 0 (by first | (simp only [if_pos c_3]; done) | rfl) _ _ hP hD hS _ (lv_sub hl [] rfl)
  · skip
    refine lv_aload_n hx hb dX3_setAt_10 rfl (lv_at hl 0 rfl) ?_
    refine k_get hx hb hts hi3 hown hK hP 0 rfl rfl 0 (by decide) hf9 (.ref a) rfl dX3_setAt_11 ?_
    refine lv_iload_n hx hb dX3_setAt_14 rfl (lv_at hl 1 rfl) ?_
    refine k_iald hx hb hK hP 1 0 rfl rfl k0.toNatClampNeg (rfl) (wi_in c_3 (by decide)) dX3_setAt_15 ?_
    refine lv_goto (tgt := 20) hx hb dX3_setAt_16 (by decide) ?_
    exact J_2 (k k0.toNatClampNeg) (by first | (simp only [if_neg c_3]; done) | rfl) _ _ hP hD hS _ (lv_sub hl [] rfl)

def sp_X1_clear (N : Nat → Int32) (n0 : Nat → Int32) (n1 : Nat → Int32) (n2 : Nat → Int32) : (Nat → Int32) × (Nat → Int32) × (Nat → Int32) × (Nat → Int32) :=
  let f_1 : Nat → Int32 := (sp_J7_fill_53178 90 n0 0)
  let f_2 : Nat → Int32 := (sp_J7_fill_53178 5 n1 0)
  let f_3 : Nat → Int32 := (sp_J7_fill_53178 5 n2 0)
  ((upd (upd (upd (upd N 3 0) 4 0) 5 0) 6 0), f_1, f_2, f_3)
set_option maxRecDepth 100000 in
theorem sq_X1_clear_1 (N : Nat → Int32) (n0 : Nat → Int32) (n1 : Nat → Int32) (n2 : Nat → Int32) (f_1 : Nat → Int32) (f_2 : Nat → Int32) (f_3 : Nat → Int32) (ef_1 : f_1 = (sp_J7_fill_53178 90 n0 0)) (ef_2 : f_2 = (sp_J7_fill_53178 5 n1 0)) (ef_3 : f_3 = (sp_J7_fill_53178 5 n2 0)) : sp_X1_clear N n0 n1 n2 = ((upd (upd (upd (upd N 3 0) 4 0) 5 0) 6 0), f_1, f_2, f_3) := by subst ef_3; subst ef_2; subst ef_1; rfl
set_option maxHeartbeats 4000000 in
set_option maxRecDepth 100000 in
theorem c_X1_clear (l : Launch) (D : va_G) (cI cJ cO : ClassId) (h : Nat) (a0 : Nat) (a1 : Nat) (a2 : Nat) (N : Nat → Int32) (n0 : Nat → Int32) (n1 : Nat → Int32) (n2 : Nat → Int32)  : MV l D (TY cI cJ cO) yX1_clear wsX1_clear (RM 1) [.ref h] [(h, oX1 a0 a1 a2 N), (a0, .inl (cI, 90, .inl n0)), (a1, .inl (cI, 5, .inl n1)), (a2, .inl (cI, 5, .inl n2))] [(h, oX1 a0 a1 a2 ((sp_X1_clear N n0 n1 n2).1)), (a0, .inl (cI, 90, .inl ((sp_X1_clear N n0 n1 n2).2.1))), (a1, .inl (cI, 5, .inl ((sp_X1_clear N n0 n1 n2).2.2.1))), (a2, .inl (cI, 5, .inl ((sp_X1_clear N n0 n1 n2).2.2.2)))] := by
  refine k_entV (cc := cX1_clear) (maxL := 1) (lv := [(0, .ref h)]) (by decide +kernel) rfl (Nat.le_of_ble_eq_true rfl) rfl ?_
  intro p e s m below meth c A Q ls hx hb hml hts hown hA hS hP hD hK hN hl hret
  have hown : s.vm.findClass RX1 = some m.cls := hown
  have hi1 : ∀ w ∈ wsX10, w ∈ wsX1_clear := fun w h => List.mem_cons_of_mem _ (List.mem_append_right _ h)
  have hf9 := hts (.fieldLink RX1 9 "PressGuard$Notes" "lockTable" "[I") (by decide +kernel)
  have hf15 := hts (.fieldLink RX1 15 "PressGuard$Notes" "causeOrder" "[I") (by decide +kernel)
  have hf18 := hts (.fieldLink RX1 18 "PressGuard$Notes" "behind" "[I") (by decide +kernel)
  have hf21 := hts (.fieldLink RX1 21 "PressGuard$Notes" "causesKnown" "I") (by decide +kernel)
  have hf25 := hts (.fieldLink RX1 25 "PressGuard$Notes" "lockPlaces" "I") (by decide +kernel)
  have hf28 := hts (.fieldLink RX1 28 "PressGuard$Notes" "lockCount" "I") (by decide +kernel)
  have hf31 := hts (.fieldLink RX1 31 "PressGuard$Notes" "tickCount" "I") (by decide +kernel)
  refine lv_aload_n hx hb dX1_clear_0 rfl (lv_at hl 0 rfl) ?_
  refine k_get hx hb hts hi1 hown hK hP 0 rfl rfl 0 (by decide) hf9 (.ref a0) rfl dX1_clear_1 ?_
  refine lv_iconst (v := 0) hx hb dX1_clear_4 (by decide +kernel) ?_
  obtain ⟨f_1, ef_1⟩ : ∃ q : Nat → Int32, q = (sp_J7_fill_53178 90 n0 0) := ⟨_, rfl⟩
  refine k_Sv ⟨hx, hb, hml, hown, hts⟩ (c_J7_fill_53178 l D cI cJ cO a0 90 n0 0 (by decide)) (va_cwS 2 hts gX1_clear_J7_fill_53178 rfl rfl rfl (by decide +kernel) ⟨Nat.le_of_ble_eq_true rfl, Nat.le_of_ble_eq_true rfl⟩) hK hN hP hD hS hA [1] rfl rfl rfl (ws' := [(h, oX1 a0 a1 a2 N), (a0, .inl (cI, 90, .inl f_1)), (a1, .inl (cI, 5, .inl n1)), (a2, .inl (cI, 5, .inl n2))]) (by rw [ef_1]; rfl) rfl hl.1 rfl (Nat.le_of_ble_eq_true rfl) dX1_clear_5 ⟨Nat.le_refl _, Nat.le_refl _⟩ (fun H locs hP hD hS => ?_)
  refine lv_aload_n hx hb dX1_clear_8 rfl (lv_at hl 0 rfl) ?_
  refine k_get hx hb hts hi1 hown hK hP 0 rfl rfl 1 (by decide) hf15 (.ref a1) rfl dX1_clear_9 ?_
  refine lv_iconst (v := 0) hx hb dX1_clear_12 (by decide +kernel) ?_
  obtain ⟨f_2, ef_2⟩ : ∃ q : Nat → Int32, q = (sp_J7_fill_53178 5 n1 0) := ⟨_, rfl⟩
  refine k_Sv ⟨hx, hb, hml, hown, hts⟩ (c_J7_fill_53178 l D cI cJ cO a1 5 n1 0 (by decide)) (va_cwS 2 hts gX1_clear_J7_fill_53178 rfl rfl rfl (by decide +kernel) ⟨Nat.le_of_ble_eq_true rfl, Nat.le_of_ble_eq_true rfl⟩) hK hN hP hD hS hA [2] rfl rfl rfl (ws' := [(h, oX1 a0 a1 a2 N), (a0, .inl (cI, 90, .inl f_1)), (a1, .inl (cI, 5, .inl f_2)), (a2, .inl (cI, 5, .inl n2))]) (by rw [ef_2]; rfl) rfl hl.1 rfl (Nat.le_of_ble_eq_true rfl) dX1_clear_13 ⟨Nat.le_refl _, Nat.le_refl _⟩ (fun H locs hP hD hS => ?_)
  refine lv_aload_n hx hb dX1_clear_16 rfl (lv_at hl 0 rfl) ?_
  refine k_get hx hb hts hi1 hown hK hP 0 rfl rfl 2 (by decide) hf18 (.ref a2) rfl dX1_clear_17 ?_
  refine lv_iconst (v := 0) hx hb dX1_clear_20 (by decide +kernel) ?_
  obtain ⟨f_3, ef_3⟩ : ∃ q : Nat → Int32, q = (sp_J7_fill_53178 5 n2 0) := ⟨_, rfl⟩
  refine k_Sv ⟨hx, hb, hml, hown, hts⟩ (c_J7_fill_53178 l D cI cJ cO a2 5 n2 0 (by decide)) (va_cwS 2 hts gX1_clear_J7_fill_53178 rfl rfl rfl (by decide +kernel) ⟨Nat.le_of_ble_eq_true rfl, Nat.le_of_ble_eq_true rfl⟩) hK hN hP hD hS hA [3] rfl rfl rfl (ws' := [(h, oX1 a0 a1 a2 N), (a0, .inl (cI, 90, .inl f_1)), (a1, .inl (cI, 5, .inl f_2)), (a2, .inl (cI, 5, .inl f_3))]) (by rw [ef_3]; rfl) rfl hl.1 rfl (Nat.le_of_ble_eq_true rfl) dX1_clear_21 ⟨Nat.le_refl _, Nat.le_refl _⟩ (fun H locs hP hD hS => ?_)
  refine lv_aload_n hx hb dX1_clear_24 rfl (lv_at hl 0 rfl) ?_
  refine lv_iconst (v := 0) hx hb dX1_clear_25 (by decide +kernel) ?_
  refine k_put hx hb hts hi1 tyX1_ok nmX1 hown hK hP hD hS 0 rfl rfl 3 (by decide) hf21 rfl (.int 0) rfl rfl (Nat.le_of_ble_eq_true rfl) (ws' := [(h, oX1 a0 a1 a2 (upd N 3 0)), (a0, .inl (cI, 90, .inl f_1)), (a1, .inl (cI, 5, .inl f_2)), (a2, .inl (cI, 5, .inl f_3))]) rfl dX1_clear_26 (fun H locs hP hD hS => ?_)
  refine lv_aload_n hx hb dX1_clear_29 rfl (lv_at hl 0 rfl) ?_
  refine lv_iconst (v := 0) hx hb dX1_clear_30 (by decide +kernel) ?_
  refine k_put hx hb hts hi1 tyX1_ok nmX1 hown hK hP hD hS 0 rfl rfl 4 (by decide) hf25 rfl (.int 0) rfl rfl (Nat.le_of_ble_eq_true rfl) (ws' := [(h, oX1 a0 a1 a2 (upd (upd N 3 0) 4 0)), (a0, .inl (cI, 90, .inl f_1)), (a1, .inl (cI, 5, .inl f_2)), (a2, .inl (cI, 5, .inl f_3))]) rfl dX1_clear_31 (fun H locs hP hD hS => ?_)
  refine lv_aload_n hx hb dX1_clear_34 rfl (lv_at hl 0 rfl) ?_
  refine lv_iconst (v := 0) hx hb dX1_clear_35 (by decide +kernel) ?_
  refine k_put hx hb hts hi1 tyX1_ok nmX1 hown hK hP hD hS 0 rfl rfl 5 (by decide) hf28 rfl (.int 0) rfl rfl (Nat.le_of_ble_eq_true rfl) (ws' := [(h, oX1 a0 a1 a2 (upd (upd (upd N 3 0) 4 0) 5 0)), (a0, .inl (cI, 90, .inl f_1)), (a1, .inl (cI, 5, .inl f_2)), (a2, .inl (cI, 5, .inl f_3))]) rfl dX1_clear_36 (fun H locs hP hD hS => ?_)
  refine lv_aload_n hx hb dX1_clear_39 rfl (lv_at hl 0 rfl) ?_
  refine lv_iconst (v := 0) hx hb dX1_clear_40 (by decide +kernel) ?_
  refine k_put hx hb hts hi1 tyX1_ok nmX1 hown hK hP hD hS 0 rfl rfl 6 (by decide) hf31 rfl (.int 0) rfl rfl (Nat.le_of_ble_eq_true rfl) (ws' := [(h, oX1 a0 a1 a2 (upd (upd (upd (upd N 3 0) 4 0) 5 0) 6 0)), (a0, .inl (cI, 90, .inl f_1)), (a1, .inl (cI, 5, .inl f_2)), (a2, .inl (cI, 5, .inl f_3))]) rfl dX1_clear_41 (fun H locs hP hD hS => ?_)
  have hsp : sp_X1_clear N n0 n1 n2 = ((upd (upd (upd (upd N 3 0) 4 0) 5 0) 6 0), f_1, f_2, f_3) := sq_X1_clear_1 N n0 n1 n2 f_1 f_2 f_3 ef_1 ef_2 ef_3
  exact hret _ _ _ _ (by rw [hsp]; exact hP) hS dX1_clear_44

def sp_X1_addTick (N : Nat → Int32) (n0 : Nat → Int32) (n1 : Nat → Int32) (n2 : Nat → Int32) (modeAhead : Int32) (modeBehind : Int32) : (Nat → Int32) × (Nat → Int32) :=
  let z_1 : Int32 := ((N 6) + 1)
  let z_2 : Nat → Int32 := (if (sp_X8_within modeAhead 0 4) = 0 then n2 else (let z_2 : Int32 := ((n2 modeAhead.toNatClampNeg) ||| (1 <<< (modeBehind &&& 31))); (upd n2 modeAhead.toNatClampNeg z_2)))
  ((upd N 6 z_1), z_2)
set_option maxRecDepth 100000 in
theorem sq_X1_addTick_1 (N : Nat → Int32) (n0 : Nat → Int32) (n1 : Nat → Int32) (n2 : Nat → Int32) (modeAhead : Int32) (modeBehind : Int32) (z_1 : Int32) (z_2 : Nat → Int32) (ez_1 : z_1 = ((N 6) + 1)) (ez_2 : z_2 = (if (sp_X8_within modeAhead 0 4) = 0 then n2 else (let z_2 : Int32 := ((n2 modeAhead.toNatClampNeg) ||| (1 <<< (modeBehind &&& 31))); (upd n2 modeAhead.toNatClampNeg z_2)))) : sp_X1_addTick N n0 n1 n2 modeAhead modeBehind = ((upd N 6 z_1), z_2) := by subst ez_2; subst ez_1; rfl
set_option maxHeartbeats 4000000 in
set_option maxRecDepth 100000 in
theorem c_X1_addTick (l : Launch) (D : va_G) (cI cJ cO : ClassId) (h : Nat) (a0 : Nat) (a1 : Nat) (a2 : Nat) (N : Nat → Int32) (n0 : Nat → Int32) (n1 : Nat → Int32) (n2 : Nat → Int32) (modeAhead : Int32) (modeBehind : Int32)  : MV l D (TY cI cJ cO) yX1_addTick wsX1_addTick (RM 1) [.ref h, .int modeAhead, .int modeBehind] [(h, oX1 a0 a1 a2 N), (a0, .inl (cI, 90, .inl n0)), (a1, .inl (cI, 5, .inl n1)), (a2, .inl (cI, 5, .inl n2))] [(h, oX1 a0 a1 a2 ((sp_X1_addTick N n0 n1 n2 modeAhead modeBehind).1)), (a0, .inl (cI, 90, .inl n0)), (a1, .inl (cI, 5, .inl n1)), (a2, .inl (cI, 5, .inl ((sp_X1_addTick N n0 n1 n2 modeAhead modeBehind).2)))] := by
  refine k_entV (cc := cX1_addTick) (maxL := 3) (lv := [(0, .ref h), (1, .int modeAhead), (2, .int modeBehind)]) (by decide +kernel) rfl (Nat.le_of_ble_eq_true rfl) rfl ?_
  intro p e s m below meth c A Q ls hx hb hml hts hown hA hS hP hD hK hN hl hret
  have hown : s.vm.findClass RX1 = some m.cls := hown
  have hi1 : ∀ w ∈ wsX10, w ∈ wsX1_addTick := fun w h => List.mem_cons_of_mem _ (List.mem_append_right _ h)
  have hf18 := hts (.fieldLink RX1 18 "PressGuard$Notes" "behind" "[I") (by decide +kernel)
  have hf31 := hts (.fieldLink RX1 31 "PressGuard$Notes" "tickCount" "I") (by decide +kernel)
  refine lv_aload_n hx hb dX1_addTick_0 rfl (lv_at hl 0 rfl) ?_
  refine lv_dup hx hb dX1_addTick_1 rfl ?_
  refine k_get hx hb hts hi1 hown hK hP 0 rfl rfl 6 (by decide) hf31 (.int (N 6)) rfl dX1_addTick_2 ?_
  refine lv_iconst (v := 1) hx hb dX1_addTick_5 (by decide +kernel) ?_
  refine lv_iadd hx hb dX1_addTick_6 ?_
  refine lv_topi (fun z_1 ez_1 => ?_)
  refine k_put hx hb hts hi1 tyX1_ok nmX1 hown hK hP hD hS 0 rfl rfl 6 (by decide) hf31 rfl (.int z_1) rfl rfl (Nat.le_of_ble_eq_true rfl) (ws' := [(h, oX1 a0 a1 a2 (upd N 6 z_1)), (a0, .inl (cI, 90, .inl n0)), (a1, .inl (cI, 5, .inl n1)), (a2, .inl (cI, 5, .inl n2))]) rfl dX1_addTick_7 (fun H locs hP hD hS => ?_)
  refine lv_iload_n hx hb dX1_addTick_10 rfl (lv_at hl 1 rfl) ?_
  refine lv_iconst (v := 0) hx hb dX1_addTick_11 (by decide +kernel) ?_
  refine lv_iconst (v := 4) hx hb dX1_addTick_12 (by decide +kernel) ?_
  refine k_SNi ⟨hx, hb, hml, hown, hts⟩ (c_X8_within l D cI cJ cO modeAhead 0 4) (va_cnB 3 hts gX1_addTick_X8_within_n40 rfl rfl rfl (hN.1 5 _ rfl) (hts (.initialized RX8) (by decide +kernel)) (by decide +kernel) ⟨Nat.le_of_ble_eq_true rfl, Nat.le_of_ble_eq_true rfl⟩) (hts (.static yX8_within) (by decide +kernel)) hK hN hP hD hS hA [] rfl rfl rfl (ws' := [(h, oX1 a0 a1 a2 (upd N 6 z_1)), (a0, .inl (cI, 90, .inl n0)), (a1, .inl (cI, 5, .inl n1)), (a2, .inl (cI, 5, .inl n2))]) rfl rfl hl.1 rfl (Nat.le_of_ble_eq_true rfl) dX1_addTick_13 ⟨Nat.le_refl _, Nat.le_refl _⟩ (fun H locs hP hD hS => ?_)
  have J_3 : ∀ z_2 : Nat → Int32, z_2 = (if (sp_X8_within modeAhead 0 4) = 0 then n2 else (let z_2 : Int32 := ((n2 modeAhead.toNatClampNeg) ||| (1 <<< (modeBehind &&& 31))); (upd n2 modeAhead.toNatClampNeg z_2))) → ∀ (H : Heap) (locs : List Loc), va_P D vwCl [(h, oX1 a0 a1 a2 (upd N 6 z_1)), (a0, .inl (cI, 90, .inl n0)), (a1, .inl (cI, 5, .inl n1)), (a2, .inl (cI, 5, .inl z_2))] H → va_D A [(h, oX1 a0 a1 a2 (upd N 6 z_1)), (a0, .inl (cI, 90, .inl n0)), (a1, .inl (cI, 5, .inl n1)), (a2, .inl (cI, 5, .inl z_2))] → va_S A s.heap H locs → ∀ ls : Array Slot, lv_has ls 3 [] → W p l e (RM 1) s m ([.ref h, .int modeAhead, .int modeBehind] : List Value).toArray below meth c H locs 0 0 Q (F0 m 31 ls []) := by
    intro z_2 ez_2 H locs hP hD hS ls hl
    have hsp : sp_X1_addTick N n0 n1 n2 modeAhead modeBehind = ((upd N 6 z_1), z_2) := sq_X1_addTick_1 N n0 n1 n2 modeAhead modeBehind z_1 z_2 ez_1 ez_2
    exact hret _ _ _ _ (by rw [hsp]; exact hP) hS dX1_addTick_31
  refine lv_if_eq (tgt := 31) hx hb dX1_addTick_16 (by decide) (fun c_4 => ?_) (fun c_4 => ?_)
  · skip
    exact J_3 n2 (by first | (simp only [if_pos c_4]; done) | rfl) _ _ hP hD hS _ (lv_sub hl [] rfl)
  · skip
    refine lv_aload_n hx hb dX1_addTick_19 rfl (lv_at hl 0 rfl) ?_
    refine k_get hx hb hts hi1 hown hK hP 0 rfl rfl 2 (by decide) hf18 (.ref a2) rfl dX1_addTick_20 ?_
    refine lv_iload_n hx hb dX1_addTick_23 rfl (lv_at hl 1 rfl) ?_
    refine lv_dup2_11 hx hb dX1_addTick_24 rfl rfl ?_
    refine k_iald hx hb hK hP 3 0 rfl rfl modeAhead.toNatClampNeg (rfl) (wi_in c_4 (by decide)) dX1_addTick_25 ?_
    refine lv_iconst (v := 1) hx hb dX1_addTick_26 (by decide +kernel) ?_
    refine lv_iload_n hx hb dX1_addTick_27 rfl (lv_at hl 2 rfl) ?_
    refine lv_ishl hx hb dX1_addTick_28 ?_
    refine lv_ior hx hb dX1_addTick_29 ?_
    refine lv_topi (fun z_5 ez_5 => ?_)
    refine k_iast hx hb hK hP hD hS 3 0 rfl rfl modeAhead.toNatClampNeg (rfl) (wi_in c_4 (by decide)) (ws' := [(h, oX1 a0 a1 a2 (upd N 6 z_1)), (a0, .inl (cI, 90, .inl n0)), (a1, .inl (cI, 5, .inl n1)), (a2, .inl (cI, 5, .inl (upd n2 modeAhead.toNatClampNeg z_5)))]) rfl dX1_addTick_30 (fun H locs hP hD hS => ?_)
    exact J_3 (upd n2 modeAhead.toNatClampNeg z_5) (by subst ez_5; first | (simp only [if_neg c_4]; done) | rfl) _ _ hP hD hS _ (lv_sub hl [] rfl)

def sp_X1_locksAt (N : Nat → Int32) (n0 : Nat → Int32) (n1 : Nat → Int32) (n2 : Nat → Int32) (by0 : Int32) (position : Int32) : Int32 :=
  (if (sp_X8_within by0 1 5) = 0 then
    0
  else
    (if (sp_X8_within position 0 17) = 0 then
      0
    else
      (n0 ((((by0 - 1) * 18) + position).toNatClampNeg))))
set_option maxHeartbeats 4000000 in
set_option maxRecDepth 100000 in
theorem c_X1_locksAt (l : Launch) (D : va_G) (cI cJ cO : ClassId) (h : Nat) (a0 : Nat) (a1 : Nat) (a2 : Nat) (N : Nat → Int32) (n0 : Nat → Int32) (n1 : Nat → Int32) (n2 : Nat → Int32) (by0 : Int32) (position : Int32)  : MI l D (TY cI cJ cO) yX1_locksAt wsX1_locksAt (RM 1) [.ref h, .int by0, .int position] [(h, oX1 a0 a1 a2 N), (a0, .inl (cI, 90, .inl n0)), (a1, .inl (cI, 5, .inl n1)), (a2, .inl (cI, 5, .inl n2))] (sp_X1_locksAt N n0 n1 n2 by0 position) [(h, oX1 a0 a1 a2 N), (a0, .inl (cI, 90, .inl n0)), (a1, .inl (cI, 5, .inl n1)), (a2, .inl (cI, 5, .inl n2))] := by
  refine k_entI (cc := cX1_locksAt) (maxL := 3) (lv := [(0, .ref h), (1, .int by0), (2, .int position)]) (by decide +kernel) rfl (Nat.le_of_ble_eq_true rfl) rfl ?_
  intro p e s m below meth c A Q ls hx hb hml hts hown hA hS hP hD hK hN hl hret
  have hown : s.vm.findClass RX1 = some m.cls := hown
  have hi1 : ∀ w ∈ wsX10, w ∈ wsX1_locksAt := fun w h => List.mem_cons_of_mem _ (List.mem_append_right _ h)
  have hf9 := hts (.fieldLink RX1 9 "PressGuard$Notes" "lockTable" "[I") (by decide +kernel)
  refine lv_iload_n hx hb dX1_locksAt_0 rfl (lv_at hl 1 rfl) ?_
  refine lv_iconst (v := 1) hx hb dX1_locksAt_1 (by decide +kernel) ?_
  refine lv_iconst (v := 5) hx hb dX1_locksAt_2 (by decide +kernel) ?_
  refine k_SNi ⟨hx, hb, hml, hown, hts⟩ (c_X8_within l D cI cJ cO by0 1 5) (va_cnB 3 hts gX1_locksAt_X8_within_n40 rfl rfl rfl (hN.1 5 _ rfl) (hts (.initialized RX8) (by decide +kernel)) (by decide +kernel) ⟨Nat.le_of_ble_eq_true rfl, Nat.le_of_ble_eq_true rfl⟩) (hts (.static yX8_within) (by decide +kernel)) hK hN hP hD hS hA [] rfl rfl rfl (ws' := [(h, oX1 a0 a1 a2 N), (a0, .inl (cI, 90, .inl n0)), (a1, .inl (cI, 5, .inl n1)), (a2, .inl (cI, 5, .inl n2))]) rfl rfl hl.1 rfl (Nat.le_of_ble_eq_true rfl) dX1_locksAt_3 ⟨Nat.le_refl _, Nat.le_refl _⟩ (fun H locs hP hD hS => ?_)
  refine lv_if_eq (tgt := 19) hx hb dX1_locksAt_6 (by decide) (fun c_1 => ?_) (fun c_1 => ?_)
  · skip
    refine lv_iconst (v := 0) hx hb dX1_locksAt_19 (by decide +kernel) ?_
    have hsp : sp_X1_locksAt N n0 n1 n2 by0 position = 0 := by simp only [sp_X1_locksAt, if_pos c_1]
    exact hret _ _ _ _ _ (by rw [hsp]) rfl hP hS dX1_locksAt_20
  · skip
    refine lv_iload_n hx hb dX1_locksAt_9 rfl (lv_at hl 2 rfl) ?_
    refine lv_iconst (v := 0) hx hb dX1_locksAt_10 (by decide +kernel) ?_
    refine lv_bipush (v := 17) hx hb dX1_locksAt_11 (by decide +kernel) ?_
    refine k_SNi ⟨hx, hb, hml, hown, hts⟩ (c_X8_within l D cI cJ cO position 0 17) (va_cnB 3 hts gX1_locksAt_X8_within_n40 rfl rfl rfl (hN.1 5 _ rfl) (hts (.initialized RX8) (by decide +kernel)) (by decide +kernel) ⟨Nat.le_of_ble_eq_true rfl, Nat.le_of_ble_eq_true rfl⟩) (hts (.static yX8_within) (by decide +kernel)) hK hN hP hD hS hA [] rfl rfl rfl (ws' := [(h, oX1 a0 a1 a2 N), (a0, .inl (cI, 90, .inl n0)), (a1, .inl (cI, 5, .inl n1)), (a2, .inl (cI, 5, .inl n2))]) rfl rfl hl.1 rfl (Nat.le_of_ble_eq_true rfl) dX1_locksAt_13 ⟨Nat.le_refl _, Nat.le_refl _⟩ (fun H locs hP hD hS => ?_)
    refine lv_if_ne (tgt := 21) hx hb dX1_locksAt_16 (by decide) (fun c_2 => ?_) (fun c_2 => ?_)
    · skip
      refine lv_aload_n hx hb dX1_locksAt_21 rfl (lv_at hl 0 rfl) ?_
      refine k_get hx hb hts hi1 hown hK hP 0 rfl rfl 0 (by decide) hf9 (.ref a0) rfl dX1_locksAt_22 ?_
      refine lv_iload_n hx hb dX1_locksAt_25 rfl (lv_at hl 1 rfl) ?_
      refine lv_iconst (v := 1) hx hb dX1_locksAt_26 (by decide +kernel) ?_
      refine lv_isub hx hb dX1_locksAt_27 ?_
      refine lv_bipush (v := 18) hx hb dX1_locksAt_28 (by decide +kernel) ?_
      refine lv_imul hx hb dX1_locksAt_30 ?_
      refine lv_iload_n hx hb dX1_locksAt_31 rfl (lv_at hl 2 rfl) ?_
      refine lv_iadd hx hb dX1_locksAt_32 ?_
      refine k_iald hx hb hK hP 1 0 rfl rfl ((((by0 - 1) * 18) + position).toNatClampNeg) (rfl) (lock_in c_1 c_2) dX1_locksAt_33 ?_
      have hsp : sp_X1_locksAt N n0 n1 n2 by0 position = (n0 ((((by0 - 1) * 18) + position).toNatClampNeg)) := by simp only [sp_X1_locksAt, if_neg c_1, if_neg c_2]
      exact hret _ _ _ _ _ (by rw [hsp]) rfl hP hS dX1_locksAt_34
    · skip
      refine lv_iconst (v := 0) hx hb dX1_locksAt_19 (by decide +kernel) ?_
      have hsp : sp_X1_locksAt N n0 n1 n2 by0 position = 0 := by simp only [sp_X1_locksAt, if_neg c_1, if_pos c_2]
      exact hret _ _ _ _ _ (by rw [hsp]) rfl hP hS dX1_locksAt_20

def bd_X1_locksBy_4 (N : Nat → Int32) (n0 : Nat → Int32) (n1 : Nat → Int32) (n2 : Nat → Int32) (by0 : Int32) (i_1 : Nat) (x_2 : (Int32)) : (Int32) :=
  (x_2 + (sp_X1_locksAt N n0 n1 n2 by0 (nI i_1)))
def sp_X1_locksBy (N : Nat → Int32) (n0 : Nat → Int32) (n1 : Nat → Int32) (n2 : Nat → Int32) (by0 : Int32) : Int32 :=
  let x_2 : (Int32) := lp (bd_X1_locksBy_4 N n0 n1 n2 by0) 18 0
  x_2
set_option maxRecDepth 100000 in
theorem sq_X1_locksBy_1 (N : Nat → Int32) (n0 : Nat → Int32) (n1 : Nat → Int32) (n2 : Nat → Int32) (by0 : Int32) (x_2 : (Int32)) (ex_2 : x_2 = lp (bd_X1_locksBy_4 N n0 n1 n2 by0) 18 0) : sp_X1_locksBy N n0 n1 n2 by0 = x_2 := by subst ex_2; rfl
set_option maxHeartbeats 4000000 in
set_option maxRecDepth 100000 in
theorem c_X1_locksBy (l : Launch) (D : va_G) (cI cJ cO : ClassId) (h : Nat) (a0 : Nat) (a1 : Nat) (a2 : Nat) (N : Nat → Int32) (n0 : Nat → Int32) (n1 : Nat → Int32) (n2 : Nat → Int32) (by0 : Int32)  : MI l D (TY cI cJ cO) yX1_locksBy wsX1_locksBy (RM 2) [.ref h, .int by0] [(h, oX1 a0 a1 a2 N), (a0, .inl (cI, 90, .inl n0)), (a1, .inl (cI, 5, .inl n1)), (a2, .inl (cI, 5, .inl n2))] (sp_X1_locksBy N n0 n1 n2 by0) [(h, oX1 a0 a1 a2 N), (a0, .inl (cI, 90, .inl n0)), (a1, .inl (cI, 5, .inl n1)), (a2, .inl (cI, 5, .inl n2))] := by
  refine k_entI (cc := cX1_locksBy) (maxL := 4) (lv := [(0, .ref h), (1, .int by0)]) (by decide +kernel) rfl (Nat.le_of_ble_eq_true rfl) rfl ?_
  intro p e s m below meth c A Q ls hx hb hml hts hown hA hS hP hD hK hN hl hret
  have hown : s.vm.findClass RX1 = some m.cls := hown
  refine lv_iconst (v := 0) hx hb dX1_locksBy_0 (by decide +kernel) ?_
  refine lv_istore_n (lv' := [(2, .int 0), (0, .ref h), (1, .int by0)]) hx hb dX1_locksBy_1 rfl hl (by decide) rfl (fun ls hl => ?_)
  refine lv_iconst (v := 0) hx hb dX1_locksBy_2 (by decide +kernel) ?_
  refine lv_istore_n (lv' := [(3, .int 0), (2, .int 0), (0, .ref h), (1, .int by0)]) hx hb dX1_locksBy_3 rfl hl (by decide) rfl (fun ls hl => ?_)
  obtain ⟨fx_2, hfx_2⟩ : ∃ f : Nat → (Int32) → (Int32), f = (bd_X1_locksBy_4 N n0 n1 n2 by0) := ⟨_, rfl⟩
  have hB_x_2 : (18 : Int32) = nI 18 := by decide +kernel
  have hN_x_2 : 18 < 2 ^ 31 := by decide
  have Lx_2 : ∀ (nn i_1 : Nat) (x_2 : (Int32)), 18 + 1 ≤ i_1 + nn → i_1 ≤ 18 → x_2 = lp fx_2 i_1 0 → ∀ (H : Heap) (locs : List Loc), va_P D vwCl [(h, oX1 a0 a1 a2 N), (a0, .inl (cI, 90, .inl n0)), (a1, .inl (cI, 5, .inl n1)), (a2, .inl (cI, 5, .inl n2))] H → va_D A [(h, oX1 a0 a1 a2 N), (a0, .inl (cI, 90, .inl n0)), (a1, .inl (cI, 5, .inl n1)), (a2, .inl (cI, 5, .inl n2))] → va_S A s.heap H locs → ∀ ls : Array Slot, lv_has ls 4 [(0, .ref h), (1, .int by0), (2, .int x_2), (3, .int (nI i_1))] → W p l e (RM 2) s m ([.ref h, .int by0] : List Value).toArray below meth c H locs 0 0 Q (F0 m 4 ls []) := by
    intro nn_x_2
    induction nn_x_2 with
    | zero => intro i_1 x_2 h1 h2; exact absurd h1 (by omega)
    | succ nn_x_2 ih_x_2 =>
      intro i_1 x_2 hn_x_2 hi_i_1 ex_x_2 H locs hP hD hS ls hl
      refine lv_iload_n hx hb dX1_locksBy_4 rfl (lv_at hl 3 rfl) ?_
      refine lv_bipush (v := 18) hx hb dX1_locksBy_5 (by decide +kernel) ?_
      refine lv_icmp_ge (tgt := 25) hx hb dX1_locksBy_7 (by decide) (fun c_3 => ?_) (fun c_3 => ?_)
      · skip
        have hq_x_2 : i_1 = 18 := k_eq hB_x_2 c_3 hi_i_1 hN_x_2
        have ex_2 : x_2 = lp (bd_X1_locksBy_4 N n0 n1 n2 by0) 18 0 := by rw [ex_x_2, hfx_2, hq_x_2]
        refine lv_iload_n hx hb dX1_locksBy_25 rfl (lv_at hl 2 rfl) ?_
        have hsp : sp_X1_locksBy N n0 n1 n2 by0 = x_2 := sq_X1_locksBy_1 N n0 n1 n2 by0 x_2 ex_2
        exact hret _ _ _ _ _ (by rw [hsp]) rfl hP hS dX1_locksBy_26
      · skip
        have hlt_i_1 : i_1 < 18 := k_lt hB_x_2 c_3 hi_i_1 hN_x_2
        refine lv_iload_n hx hb dX1_locksBy_10 rfl (lv_at hl 2 rfl) ?_
        refine lv_aload_n hx hb dX1_locksBy_11 rfl (lv_at hl 0 rfl) ?_
        refine lv_iload_n hx hb dX1_locksBy_12 rfl (lv_at hl 1 rfl) ?_
        refine lv_iload_n hx hb dX1_locksBy_13 rfl (lv_at hl 3 rfl) ?_
        refine k_Vi ⟨hx, hb, hml, hown, hts⟩ (c_X1_locksAt l D cI cJ cO h a0 a1 a2 N n0 n1 n2 by0 (nI i_1)) (ci := 1) (q0 := 0) rfl rfl (cwV 2 hts gX1_locksBy_X1_locksAt rfl rfl rfl (by decide +kernel) ⟨Nat.le_of_ble_eq_true rfl, Nat.le_of_ble_eq_true rfl⟩) hK hN hP hD hS hA [0, 1, 2, 3] rfl rfl rfl (ws' := [(h, oX1 a0 a1 a2 N), (a0, .inl (cI, 90, .inl n0)), (a1, .inl (cI, 5, .inl n1)), (a2, .inl (cI, 5, .inl n2))]) rfl rfl hl.1 rfl (Nat.le_of_ble_eq_true rfl) dX1_locksBy_14 ⟨Nat.le_refl _, Nat.le_refl _⟩ (fun H locs hP hD hS => ?_)
        refine lv_iadd hx hb dX1_locksBy_17 ?_
        refine lv_istore_n (lv' := [(2, .int (x_2 + (sp_X1_locksAt N n0 n1 n2 by0 (nI i_1)))), (0, .ref h), (1, .int by0), (3, .int (nI i_1))]) hx hb dX1_locksBy_18 rfl hl (by decide) rfl (fun ls hl => ?_)
        refine lv_iinc (v := (nI (i_1 + 1))) (lv' := [(3, .int (nI (i_1 + 1))), (2, .int (x_2 + (sp_X1_locksAt N n0 n1 n2 by0 (nI i_1)))), (0, .ref h), (1, .int by0)]) hx hb dX1_locksBy_19 hl (k := 3) rfl (nI_1 i_1) (by decide) rfl (fun ls hl => ?_)
        refine lv_goto (tgt := 4) hx hb dX1_locksBy_22 (by decide) ?_
        exact ih_x_2 (i_1 + 1) (x_2 + (sp_X1_locksAt N n0 n1 n2 by0 (nI i_1))) (by omega) (by omega) (by rw [show lp fx_2 (i_1 + 1) 0 = fx_2 i_1 (lp fx_2 i_1 0) from rfl, ← ex_x_2, hfx_2]; try (first | (rfl; done) | rfl)) _ _ hP hD hS _ (lv_sub hl [2, 3, 1, 0] rfl)
  exact Lx_2 (18 + 1) 0 0 (by omega) (Nat.zero_le _) rfl _ _ hP hD hS _ (lv_sub hl [2, 3, 1, 0] rfl)

def sp_X1_addLock (N : Nat → Int32) (n0 : Nat → Int32) (n1 : Nat → Int32) (n2 : Nat → Int32) (by0 : Int32) (position : Int32) : (Nat → Int32) × (Nat → Int32) × (Nat → Int32) :=
  (if (sp_X8_within by0 1 5) = 0 then
    (N, n0, n1)
  else
    (if (sp_X8_within position 0 17) = 0 then
      (N, n0, n1)
    else
      let z_3 : Nat → Int32 := (if (sp_X1_locksBy N n0 n1 n2 by0) = 0 then (if 5 ≤ (N 3) then N else (let z_4 : Int32 := ((N 3) + 1); (upd N 3 z_4))) else N)
      let z_4 : Nat → Int32 := (if (sp_X1_locksBy N n0 n1 n2 by0) = 0 then (if 5 ≤ (N 3) then n1 else (upd n1 ((N 3).toNatClampNeg) by0)) else n1)
      let z_6 : Int32 := ((n0 ((((by0 - 1) * 18) + position).toNatClampNeg)) + 1)
      let z_7 : Int32 := ((z_3 4) ||| (1 <<< (position &&& 31)))
      let z_8 : Int32 := ((z_3 5) + 1)
      ((upd (upd z_3 4 z_7) 5 z_8), (upd n0 ((((by0 - 1) * 18) + position).toNatClampNeg) z_6), z_4)))
set_option maxRecDepth 100000 in
theorem sq_X1_addLock_1 (N : Nat → Int32) (n0 : Nat → Int32) (n1 : Nat → Int32) (n2 : Nat → Int32) (by0 : Int32) (position : Int32) (z_3 : Nat → Int32) (z_4 : Nat → Int32) (z_6 : Int32) (z_7 : Int32) (z_8 : Int32) (ez_3 : z_3 = (if (sp_X1_locksBy N n0 n1 n2 by0) = 0 then (if 5 ≤ (N 3) then N else (let z_4 : Int32 := ((N 3) + 1); (upd N 3 z_4))) else N)) (ez_4 : z_4 = (if (sp_X1_locksBy N n0 n1 n2 by0) = 0 then (if 5 ≤ (N 3) then n1 else (upd n1 ((N 3).toNatClampNeg) by0)) else n1)) (ez_6 : z_6 = ((n0 ((((by0 - 1) * 18) + position).toNatClampNeg)) + 1)) (ez_7 : z_7 = ((z_3 4) ||| (1 <<< (position &&& 31)))) (ez_8 : z_8 = ((z_3 5) + 1)) (c_1 : ¬ ((sp_X8_within by0 1 5) = 0)) (c_2 : ¬ ((sp_X8_within position 0 17) = 0)) : sp_X1_addLock N n0 n1 n2 by0 position = ((upd (upd z_3 4 z_7) 5 z_8), (upd n0 ((((by0 - 1) * 18) + position).toNatClampNeg) z_6), z_4) := by subst ez_8; subst ez_7; subst ez_6; subst ez_4; subst ez_3; simp only [sp_X1_addLock, if_neg c_1, if_neg c_2]
set_option maxHeartbeats 4000000 in
set_option maxRecDepth 100000 in
theorem c_X1_addLock (l : Launch) (D : va_G) (cI cJ cO : ClassId) (h : Nat) (a0 : Nat) (a1 : Nat) (a2 : Nat) (N : Nat → Int32) (n0 : Nat → Int32) (n1 : Nat → Int32) (n2 : Nat → Int32) (by0 : Int32) (position : Int32) (hk : ¬ N 3 < 0) : MV l D (TY cI cJ cO) yX1_addLock wsX1_addLock (RM 3) [.ref h, .int by0, .int position] [(h, oX1 a0 a1 a2 N), (a0, .inl (cI, 90, .inl n0)), (a1, .inl (cI, 5, .inl n1)), (a2, .inl (cI, 5, .inl n2))] [(h, oX1 a0 a1 a2 ((sp_X1_addLock N n0 n1 n2 by0 position).1)), (a0, .inl (cI, 90, .inl ((sp_X1_addLock N n0 n1 n2 by0 position).2.1))), (a1, .inl (cI, 5, .inl ((sp_X1_addLock N n0 n1 n2 by0 position).2.2))), (a2, .inl (cI, 5, .inl n2))] := by
  refine k_entV (cc := cX1_addLock) (maxL := 3) (lv := [(0, .ref h), (1, .int by0), (2, .int position)]) (by decide +kernel) rfl (Nat.le_of_ble_eq_true rfl) rfl ?_
  intro p e s m below meth c A Q ls hx hb hml hts hown hA hS hP hD hK hN hl hret
  have hown : s.vm.findClass RX1 = some m.cls := hown
  have hi1 : ∀ w ∈ wsX10, w ∈ wsX1_addLock := fun w h => List.mem_cons_of_mem _ (List.mem_append_right _ h)
  have hf9 := hts (.fieldLink RX1 9 "PressGuard$Notes" "lockTable" "[I") (by decide +kernel)
  have hf15 := hts (.fieldLink RX1 15 "PressGuard$Notes" "causeOrder" "[I") (by decide +kernel)
  have hf21 := hts (.fieldLink RX1 21 "PressGuard$Notes" "causesKnown" "I") (by decide +kernel)
  have hf25 := hts (.fieldLink RX1 25 "PressGuard$Notes" "lockPlaces" "I") (by decide +kernel)
  have hf28 := hts (.fieldLink RX1 28 "PressGuard$Notes" "lockCount" "I") (by decide +kernel)
  refine lv_iload_n hx hb dX1_addLock_0 rfl (lv_at hl 1 rfl) ?_
  refine lv_iconst (v := 1) hx hb dX1_addLock_1 (by decide +kernel) ?_
  refine lv_iconst (v := 5) hx hb dX1_addLock_2 (by decide +kernel) ?_
  refine k_SNi ⟨hx, hb, hml, hown, hts⟩ (c_X8_within l D cI cJ cO by0 1 5) (va_cnB 3 hts gX1_addLock_X8_within_n40 rfl rfl rfl (hN.1 5 _ rfl) (hts (.initialized RX8) (by decide +kernel)) (by decide +kernel) ⟨Nat.le_of_ble_eq_true rfl, Nat.le_of_ble_eq_true rfl⟩) (hts (.static yX8_within) (by decide +kernel)) hK hN hP hD hS hA [] rfl rfl rfl (ws' := [(h, oX1 a0 a1 a2 N), (a0, .inl (cI, 90, .inl n0)), (a1, .inl (cI, 5, .inl n1)), (a2, .inl (cI, 5, .inl n2))]) rfl rfl hl.1 rfl (Nat.le_of_ble_eq_true rfl) dX1_addLock_3 ⟨Nat.le_refl _, Nat.le_refl _⟩ (fun H locs hP hD hS => ?_)
  refine lv_if_eq (tgt := 19) hx hb dX1_addLock_6 (by decide) (fun c_1 => ?_) (fun c_1 => ?_)
  · skip
    have hsp : sp_X1_addLock N n0 n1 n2 by0 position = (N, n0, n1) := by simp only [sp_X1_addLock, if_pos c_1]
    exact hret _ _ _ _ (by rw [hsp]; exact hP) hS dX1_addLock_19
  · skip
    refine lv_iload_n hx hb dX1_addLock_9 rfl (lv_at hl 2 rfl) ?_
    refine lv_iconst (v := 0) hx hb dX1_addLock_10 (by decide +kernel) ?_
    refine lv_bipush (v := 17) hx hb dX1_addLock_11 (by decide +kernel) ?_
    refine k_SNi ⟨hx, hb, hml, hown, hts⟩ (c_X8_within l D cI cJ cO position 0 17) (va_cnB 3 hts gX1_addLock_X8_within_n40 rfl rfl rfl (hN.1 5 _ rfl) (hts (.initialized RX8) (by decide +kernel)) (by decide +kernel) ⟨Nat.le_of_ble_eq_true rfl, Nat.le_of_ble_eq_true rfl⟩) (hts (.static yX8_within) (by decide +kernel)) hK hN hP hD hS hA [] rfl rfl rfl (ws' := [(h, oX1 a0 a1 a2 N), (a0, .inl (cI, 90, .inl n0)), (a1, .inl (cI, 5, .inl n1)), (a2, .inl (cI, 5, .inl n2))]) rfl rfl hl.1 rfl (Nat.le_of_ble_eq_true rfl) dX1_addLock_13 ⟨Nat.le_refl _, Nat.le_refl _⟩ (fun H locs hP hD hS => ?_)
    refine lv_if_ne (tgt := 20) hx hb dX1_addLock_16 (by decide) (fun c_2 => ?_) (fun c_2 => ?_)
    · skip
      refine lv_aload_n hx hb dX1_addLock_20 rfl (lv_at hl 0 rfl) ?_
      refine lv_iload_n hx hb dX1_addLock_21 rfl (lv_at hl 1 rfl) ?_
      refine k_Vi ⟨hx, hb, hml, hown, hts⟩ (c_X1_locksBy l D cI cJ cO h a0 a1 a2 N n0 n1 n2 by0) (ci := 1) (q0 := 0) rfl rfl (cwV 1 hts gX1_addLock_X1_locksBy rfl rfl rfl (by decide +kernel) ⟨Nat.le_of_ble_eq_true rfl, Nat.le_of_ble_eq_true rfl⟩) hK hN hP hD hS hA [0, 1, 2, 3] rfl rfl rfl (ws' := [(h, oX1 a0 a1 a2 N), (a0, .inl (cI, 90, .inl n0)), (a1, .inl (cI, 5, .inl n1)), (a2, .inl (cI, 5, .inl n2))]) rfl rfl hl.1 rfl (Nat.le_of_ble_eq_true rfl) dX1_addLock_22 ⟨Nat.le_refl _, Nat.le_refl _⟩ (fun H locs hP hD hS => ?_)
      have J_5 : ∀ z_3 : Nat → Int32, z_3 = (if (sp_X1_locksBy N n0 n1 n2 by0) = 0 then (if 5 ≤ (N 3) then N else (let z_4 : Int32 := ((N 3) + 1); (upd N 3 z_4))) else N) → ∀ z_4 : Nat → Int32, z_4 = (if (sp_X1_locksBy N n0 n1 n2 by0) = 0 then (if 5 ≤ (N 3) then n1 else (upd n1 ((N 3).toNatClampNeg) by0)) else n1) → ∀ (H : Heap) (locs : List Loc), va_P D vwCl [(h, oX1 a0 a1 a2 z_3), (a0, .inl (cI, 90, .inl n0)), (a1, .inl (cI, 5, .inl z_4)), (a2, .inl (cI, 5, .inl n2))] H → va_D A [(h, oX1 a0 a1 a2 z_3), (a0, .inl (cI, 90, .inl n0)), (a1, .inl (cI, 5, .inl z_4)), (a2, .inl (cI, 5, .inl n2))] → va_S A s.heap H locs → ∀ ls : Array Slot, lv_has ls 3 [(0, .ref h), (1, .int by0), (2, .int position)] → W p l e (RM 3) s m ([.ref h, .int by0, .int position] : List Value).toArray below meth c H locs 0 0 Q (F0 m 56 ls []) := by
        intro z_3 ez_3 z_4 ez_4 H locs hP hD hS ls hl
        refine lv_aload_n hx hb dX1_addLock_56 rfl (lv_at hl 0 rfl) ?_
        refine k_get hx hb hts hi1 hown hK hP 0 rfl rfl 0 (by decide) hf9 (.ref a0) rfl dX1_addLock_57 ?_
        refine lv_iload_n hx hb dX1_addLock_60 rfl (lv_at hl 1 rfl) ?_
        refine lv_iconst (v := 1) hx hb dX1_addLock_61 (by decide +kernel) ?_
        refine lv_isub hx hb dX1_addLock_62 ?_
        refine lv_bipush (v := 18) hx hb dX1_addLock_63 (by decide +kernel) ?_
        refine lv_imul hx hb dX1_addLock_65 ?_
        refine lv_iload_n hx hb dX1_addLock_66 rfl (lv_at hl 2 rfl) ?_
        refine lv_iadd hx hb dX1_addLock_67 ?_
        refine lv_dup2_11 hx hb dX1_addLock_68 rfl rfl ?_
        refine k_iald hx hb hK hP 1 0 rfl rfl ((((by0 - 1) * 18) + position).toNatClampNeg) (rfl) (lock_in c_1 c_2) dX1_addLock_69 ?_
        refine lv_iconst (v := 1) hx hb dX1_addLock_70 (by decide +kernel) ?_
        refine lv_iadd hx hb dX1_addLock_71 ?_
        refine lv_topi (fun z_6 ez_6 => ?_)
        refine k_iast hx hb hK hP hD hS 1 0 rfl rfl ((((by0 - 1) * 18) + position).toNatClampNeg) (rfl) (lock_in c_1 c_2) (ws' := [(h, oX1 a0 a1 a2 z_3), (a0, .inl (cI, 90, .inl (upd n0 ((((by0 - 1) * 18) + position).toNatClampNeg) z_6))), (a1, .inl (cI, 5, .inl z_4)), (a2, .inl (cI, 5, .inl n2))]) rfl dX1_addLock_72 (fun H locs hP hD hS => ?_)
        refine lv_aload_n hx hb dX1_addLock_73 rfl (lv_at hl 0 rfl) ?_
        refine lv_dup hx hb dX1_addLock_74 rfl ?_
        refine k_get hx hb hts hi1 hown hK hP 0 rfl rfl 4 (by decide) hf25 (.int (z_3 4)) rfl dX1_addLock_75 ?_
        refine lv_iconst (v := 1) hx hb dX1_addLock_78 (by decide +kernel) ?_
        refine lv_iload_n hx hb dX1_addLock_79 rfl (lv_at hl 2 rfl) ?_
        refine lv_ishl hx hb dX1_addLock_80 ?_
        refine lv_ior hx hb dX1_addLock_81 ?_
        refine lv_topi (fun z_7 ez_7 => ?_)
        refine k_put hx hb hts hi1 tyX1_ok nmX1 hown hK hP hD hS 0 rfl rfl 4 (by decide) hf25 rfl (.int z_7) rfl rfl (Nat.le_of_ble_eq_true rfl) (ws' := [(h, oX1 a0 a1 a2 (upd z_3 4 z_7)), (a0, .inl (cI, 90, .inl (upd n0 ((((by0 - 1) * 18) + position).toNatClampNeg) z_6))), (a1, .inl (cI, 5, .inl z_4)), (a2, .inl (cI, 5, .inl n2))]) rfl dX1_addLock_82 (fun H locs hP hD hS => ?_)
        refine lv_aload_n hx hb dX1_addLock_85 rfl (lv_at hl 0 rfl) ?_
        refine lv_dup hx hb dX1_addLock_86 rfl ?_
        refine k_get hx hb hts hi1 hown hK hP 0 rfl rfl 5 (by decide) hf28 (.int (z_3 5)) rfl dX1_addLock_87 ?_
        refine lv_iconst (v := 1) hx hb dX1_addLock_90 (by decide +kernel) ?_
        refine lv_iadd hx hb dX1_addLock_91 ?_
        refine lv_topi (fun z_8 ez_8 => ?_)
        refine k_put hx hb hts hi1 tyX1_ok nmX1 hown hK hP hD hS 0 rfl rfl 5 (by decide) hf28 rfl (.int z_8) rfl rfl (Nat.le_of_ble_eq_true rfl) (ws' := [(h, oX1 a0 a1 a2 (upd (upd z_3 4 z_7) 5 z_8)), (a0, .inl (cI, 90, .inl (upd n0 ((((by0 - 1) * 18) + position).toNatClampNeg) z_6))), (a1, .inl (cI, 5, .inl z_4)), (a2, .inl (cI, 5, .inl n2))]) rfl dX1_addLock_92 (fun H locs hP hD hS => ?_)
        have hsp : sp_X1_addLock N n0 n1 n2 by0 position = ((upd (upd z_3 4 z_7) 5 z_8), (upd n0 ((((by0 - 1) * 18) + position).toNatClampNeg) z_6), z_4) := sq_X1_addLock_1 N n0 n1 n2 by0 position z_3 z_4 z_6 z_7 z_8 ez_3 ez_4 ez_6 ez_7 ez_8 c_1 c_2
        exact hret _ _ _ _ (by rw [hsp]; exact hP) hS dX1_addLock_95
      refine lv_if_ne (tgt := 56) hx hb dX1_addLock_25 (by decide) (fun c_9 => ?_) (fun c_9 => ?_)
      · skip
        exact J_5 N (by first | (simp only [if_neg c_9]; done) | rfl) n1 (by first | (simp only [if_neg c_9]; done) | rfl) _ _ hP hD hS _ (lv_sub hl [0, 1, 2] rfl)
      · skip
        refine lv_aload_n hx hb dX1_addLock_28 rfl (lv_at hl 0 rfl) ?_
        refine k_get hx hb hts hi1 hown hK hP 0 rfl rfl 3 (by decide) hf21 (.int (N 3)) rfl dX1_addLock_29 ?_
        refine lv_iconst (v := 5) hx hb dX1_addLock_32 (by decide +kernel) ?_
        refine lv_icmp_ge (tgt := 56) hx hb dX1_addLock_33 (by decide) (fun c_10 => ?_) (fun c_10 => ?_)
        · skip
          exact J_5 N (by first | (simp only [if_pos c_9, if_pos c_10]; done) | rfl) n1 (by first | (simp only [if_pos c_9, if_pos c_10]; done) | rfl) _ _ hP hD hS _ (lv_sub hl [0, 1, 2] rfl)
        · skip
          refine lv_aload_n hx hb dX1_addLock_36 rfl (lv_at hl 0 rfl) ?_
          refine k_get hx hb hts hi1 hown hK hP 0 rfl rfl 1 (by decide) hf15 (.ref a1) rfl dX1_addLock_37 ?_
          refine lv_aload_n hx hb dX1_addLock_40 rfl (lv_at hl 0 rfl) ?_
          refine k_get hx hb hts hi1 hown hK hP 0 rfl rfl 3 (by decide) hf21 (.int (N 3)) rfl dX1_addLock_41 ?_
          refine lv_iload_n hx hb dX1_addLock_44 rfl (lv_at hl 1 rfl) ?_
          refine k_iast hx hb hK hP hD hS 2 0 rfl rfl ((N 3).toNatClampNeg) (rfl) (lt_in hk (Int32.not_le.mp c_10) (by decide)) (ws' := [(h, oX1 a0 a1 a2 N), (a0, .inl (cI, 90, .inl n0)), (a1, .inl (cI, 5, .inl (upd n1 ((N 3).toNatClampNeg) by0))), (a2, .inl (cI, 5, .inl n2))]) rfl dX1_addLock_45 (fun H locs hP hD hS => ?_)
          refine lv_aload_n hx hb dX1_addLock_46 rfl (lv_at hl 0 rfl) ?_
          refine lv_dup hx hb dX1_addLock_47 rfl ?_
          refine k_get hx hb hts hi1 hown hK hP 0 rfl rfl 3 (by decide) hf21 (.int (N 3)) rfl dX1_addLock_48 ?_
          refine lv_iconst (v := 1) hx hb dX1_addLock_51 (by decide +kernel) ?_
          refine lv_iadd hx hb dX1_addLock_52 ?_
          refine lv_topi (fun z_11 ez_11 => ?_)
          refine k_put hx hb hts hi1 tyX1_ok nmX1 hown hK hP hD hS 0 rfl rfl 3 (by decide) hf21 rfl (.int z_11) rfl rfl (Nat.le_of_ble_eq_true rfl) (ws' := [(h, oX1 a0 a1 a2 (upd N 3 z_11)), (a0, .inl (cI, 90, .inl n0)), (a1, .inl (cI, 5, .inl (upd n1 ((N 3).toNatClampNeg) by0))), (a2, .inl (cI, 5, .inl n2))]) rfl dX1_addLock_53 (fun H locs hP hD hS => ?_)
          exact J_5 (upd N 3 z_11) (by subst ez_11; first | (simp only [if_pos c_9, if_neg c_10]; done) | rfl) (upd n1 ((N 3).toNatClampNeg) by0) (by subst ez_11; first | (simp only [if_pos c_9, if_neg c_10]; done) | rfl) _ _ hP hD hS _ (lv_sub hl [0, 1, 2] rfl)
    · skip
      have hsp : sp_X1_addLock N n0 n1 n2 by0 position = (N, n0, n1) := by simp only [sp_X1_addLock, if_neg c_1, if_pos c_2]
      exact hret _ _ _ _ (by rw [hsp]; exact hP) hS dX1_addLock_19

def sp_X1_causeInOrder (N : Nat → Int32) (n0 : Nat → Int32) (n1 : Nat → Int32) (n2 : Nat → Int32) (k0 : Int32) : Int32 :=
  let z_1 : Int32 := (if k0 < 0 then (-9) else (if (N 3) ≤ k0 then (-9) else (if 5 ≤ k0 then (-9) else (n1 k0.toNatClampNeg))))
  z_1
set_option maxRecDepth 100000 in
theorem sq_X1_causeInOrder_1 (N : Nat → Int32) (n0 : Nat → Int32) (n1 : Nat → Int32) (n2 : Nat → Int32) (k0 : Int32) (z_1 : Int32) (ez_1 : z_1 = (if k0 < 0 then (-9) else (if (N 3) ≤ k0 then (-9) else (if 5 ≤ k0 then (-9) else (n1 k0.toNatClampNeg))))) : sp_X1_causeInOrder N n0 n1 n2 k0 = z_1 := by subst ez_1; rfl
set_option maxHeartbeats 4000000 in
set_option maxRecDepth 100000 in
theorem c_X1_causeInOrder (l : Launch) (D : va_G) (cI cJ cO : ClassId) (h : Nat) (a0 : Nat) (a1 : Nat) (a2 : Nat) (N : Nat → Int32) (n0 : Nat → Int32) (n1 : Nat → Int32) (n2 : Nat → Int32) (k0 : Int32)  : MI l D (TY cI cJ cO) yX1_causeInOrder wsX1_causeInOrder (RM 0) [.ref h, .int k0] [(h, oX1 a0 a1 a2 N), (a0, .inl (cI, 90, .inl n0)), (a1, .inl (cI, 5, .inl n1)), (a2, .inl (cI, 5, .inl n2))] (sp_X1_causeInOrder N n0 n1 n2 k0) [(h, oX1 a0 a1 a2 N), (a0, .inl (cI, 90, .inl n0)), (a1, .inl (cI, 5, .inl n1)), (a2, .inl (cI, 5, .inl n2))] := by
  refine k_entI (cc := cX1_causeInOrder) (maxL := 2) (lv := [(0, .ref h), (1, .int k0)]) (by decide +kernel) rfl (Nat.le_of_ble_eq_true rfl) rfl ?_
  intro p e s m below meth c A Q ls hx hb hml hts hown hA hS hP hD hK hN hl hret
  have hown : s.vm.findClass RX1 = some m.cls := hown
  have hi1 : ∀ w ∈ wsX10, w ∈ wsX1_causeInOrder := fun w h => List.mem_cons_of_mem _ (List.mem_append_right _ h)
  have hf15 := hts (.fieldLink RX1 15 "PressGuard$Notes" "causeOrder" "[I") (by decide +kernel)
  have hf21 := hts (.fieldLink RX1 21 "PressGuard$Notes" "causesKnown" "I") (by decide +kernel)
  refine lv_iload_n hx hb dX1_causeInOrder_0 rfl (lv_at hl 1 rfl) ?_
  have J_2 : ∀ z_1 : Int32, z_1 = (if k0 < 0 then (-9) else (if (N 3) ≤ k0 then (-9) else (if 5 ≤ k0 then (-9) else (n1 k0.toNatClampNeg)))) → ∀ (H : Heap) (locs : List Loc), va_P D vwCl [(h, oX1 a0 a1 a2 N), (a0, .inl (cI, 90, .inl n0)), (a1, .inl (cI, 5, .inl n1)), (a2, .inl (cI, 5, .inl n2))] H → va_D A [(h, oX1 a0 a1 a2 N), (a0, .inl (cI, 90, .inl n0)), (a1, .inl (cI, 5, .inl n1)), (a2, .inl (cI, 5, .inl n2))] → va_S A s.heap H locs → ∀ ls : Array Slot, lv_has ls 2 [] → W p l e (RM 0) s m ([.ref h, .int k0] : List Value).toArray below meth c H locs 0 0 Q (F0 m 28 ls [.int z_1]) := by
    intro z_1 ez_1 H locs hP hD hS ls hl
    have hsp : sp_X1_causeInOrder N n0 n1 n2 k0 = z_1 := sq_X1_causeInOrder_1 N n0 n1 n2 k0 z_1 ez_1
    exact hret _ _ _ _ _ (by rw [hsp]) rfl hP hS dX1_causeInOrder_28
  refine lv_if_lt (tgt := 26) hx hb dX1_causeInOrder_1 (by decide) (fun c_3 => ?_) (fun c_3 => ?_)
  · skip
    refine lv_bipush (v := (-9)) hx hb dX1_causeInOrder_26 (by decide +kernel) ?_
    exact J_2 (-9) (by first | (simp only [if_pos c_3]; done) | rfl) _ _ hP hD hS _ (lv_sub hl [] rfl)
  · skip
    refine lv_iload_n hx hb dX1_causeInOrder_4 rfl (lv_at hl 1 rfl) ?_
    refine lv_aload_n hx hb dX1_causeInOrder_5 rfl (lv_at hl 0 rfl) ?_
    refine k_get hx hb hts hi1 hown hK hP 0 rfl rfl 3 (by decide) hf21 (.int (N 3)) rfl dX1_causeInOrder_6 ?_
    refine lv_icmp_ge (tgt := 26) hx hb dX1_causeInOrder_9 (by decide) (fun c_4 => ?_) (fun c_4 => ?_)
    · skip
      refine lv_bipush (v := (-9)) hx hb dX1_causeInOrder_26 (by decide +kernel) ?_
      exact J_2 (-9) (by first | (simp only [if_neg c_3, if_pos c_4]; done) | rfl) _ _ hP hD hS _ (lv_sub hl [] rfl)
    · skip
      refine lv_iload_n hx hb dX1_causeInOrder_12 rfl (lv_at hl 1 rfl) ?_
      refine lv_iconst (v := 5) hx hb dX1_causeInOrder_13 (by decide +kernel) ?_
      refine lv_icmp_ge (tgt := 26) hx hb dX1_causeInOrder_14 (by decide) (fun c_5 => ?_) (fun c_5 => ?_)
      · skip
        refine lv_bipush (v := (-9)) hx hb dX1_causeInOrder_26 (by decide +kernel) ?_
        exact J_2 (-9) (by first | (simp only [if_neg c_3, if_neg c_4, if_pos c_5]; done) | rfl) _ _ hP hD hS _ (lv_sub hl [] rfl)
      · skip
        refine lv_aload_n hx hb dX1_causeInOrder_17 rfl (lv_at hl 0 rfl) ?_
        refine k_get hx hb hts hi1 hown hK hP 0 rfl rfl 1 (by decide) hf15 (.ref a1) rfl dX1_causeInOrder_18 ?_
        refine lv_iload_n hx hb dX1_causeInOrder_21 rfl (lv_at hl 1 rfl) ?_
        refine k_iald hx hb hK hP 2 0 rfl rfl k0.toNatClampNeg (rfl) (lt_in c_3 (Int32.not_le.mp c_5) (by decide)) dX1_causeInOrder_22 ?_
        refine lv_goto (tgt := 28) hx hb dX1_causeInOrder_23 (by decide) ?_
        exact J_2 (n1 k0.toNatClampNeg) (by first | (simp only [if_neg c_3, if_neg c_4, if_neg c_5]; done) | rfl) _ _ hP hD hS _ (lv_sub hl [] rfl)

def sp_X1_modesBehind (N : Nat → Int32) (n0 : Nat → Int32) (n1 : Nat → Int32) (n2 : Nat → Int32) (mode : Int32) : Int32 :=
  let z_1 : Int32 := (if (sp_X8_within mode 0 4) = 0 then 0 else (n2 mode.toNatClampNeg))
  z_1
set_option maxRecDepth 100000 in
theorem sq_X1_modesBehind_1 (N : Nat → Int32) (n0 : Nat → Int32) (n1 : Nat → Int32) (n2 : Nat → Int32) (mode : Int32) (z_1 : Int32) (ez_1 : z_1 = (if (sp_X8_within mode 0 4) = 0 then 0 else (n2 mode.toNatClampNeg))) : sp_X1_modesBehind N n0 n1 n2 mode = z_1 := by subst ez_1; rfl
set_option maxHeartbeats 4000000 in
set_option maxRecDepth 100000 in
theorem c_X1_modesBehind (l : Launch) (D : va_G) (cI cJ cO : ClassId) (h : Nat) (a0 : Nat) (a1 : Nat) (a2 : Nat) (N : Nat → Int32) (n0 : Nat → Int32) (n1 : Nat → Int32) (n2 : Nat → Int32) (mode : Int32)  : MI l D (TY cI cJ cO) yX1_modesBehind wsX1_modesBehind (RM 1) [.ref h, .int mode] [(h, oX1 a0 a1 a2 N), (a0, .inl (cI, 90, .inl n0)), (a1, .inl (cI, 5, .inl n1)), (a2, .inl (cI, 5, .inl n2))] (sp_X1_modesBehind N n0 n1 n2 mode) [(h, oX1 a0 a1 a2 N), (a0, .inl (cI, 90, .inl n0)), (a1, .inl (cI, 5, .inl n1)), (a2, .inl (cI, 5, .inl n2))] := by
  refine k_entI (cc := cX1_modesBehind) (maxL := 2) (lv := [(0, .ref h), (1, .int mode)]) (by decide +kernel) rfl (Nat.le_of_ble_eq_true rfl) rfl ?_
  intro p e s m below meth c A Q ls hx hb hml hts hown hA hS hP hD hK hN hl hret
  have hown : s.vm.findClass RX1 = some m.cls := hown
  have hi1 : ∀ w ∈ wsX10, w ∈ wsX1_modesBehind := fun w h => List.mem_cons_of_mem _ (List.mem_append_right _ h)
  have hf18 := hts (.fieldLink RX1 18 "PressGuard$Notes" "behind" "[I") (by decide +kernel)
  refine lv_iload_n hx hb dX1_modesBehind_0 rfl (lv_at hl 1 rfl) ?_
  refine lv_iconst (v := 0) hx hb dX1_modesBehind_1 (by decide +kernel) ?_
  refine lv_iconst (v := 4) hx hb dX1_modesBehind_2 (by decide +kernel) ?_
  refine k_SNi ⟨hx, hb, hml, hown, hts⟩ (c_X8_within l D cI cJ cO mode 0 4) (va_cnB 3 hts gX1_modesBehind_X8_within_n40 rfl rfl rfl (hN.1 5 _ rfl) (hts (.initialized RX8) (by decide +kernel)) (by decide +kernel) ⟨Nat.le_of_ble_eq_true rfl, Nat.le_of_ble_eq_true rfl⟩) (hts (.static yX8_within) (by decide +kernel)) hK hN hP hD hS hA [] rfl rfl rfl (ws' := [(h, oX1 a0 a1 a2 N), (a0, .inl (cI, 90, .inl n0)), (a1, .inl (cI, 5, .inl n1)), (a2, .inl (cI, 5, .inl n2))]) rfl rfl hl.1 rfl (Nat.le_of_ble_eq_true rfl) dX1_modesBehind_3 ⟨Nat.le_refl _, Nat.le_refl _⟩ (fun H locs hP hD hS => ?_)
  have J_2 : ∀ z_1 : Int32, z_1 = (if (sp_X8_within mode 0 4) = 0 then 0 else (n2 mode.toNatClampNeg)) → ∀ (H : Heap) (locs : List Loc), va_P D vwCl [(h, oX1 a0 a1 a2 N), (a0, .inl (cI, 90, .inl n0)), (a1, .inl (cI, 5, .inl n1)), (a2, .inl (cI, 5, .inl n2))] H → va_D A [(h, oX1 a0 a1 a2 N), (a0, .inl (cI, 90, .inl n0)), (a1, .inl (cI, 5, .inl n1)), (a2, .inl (cI, 5, .inl n2))] → va_S A s.heap H locs → ∀ ls : Array Slot, lv_has ls 2 [] → W p l e (RM 1) s m ([.ref h, .int mode] : List Value).toArray below meth c H locs 0 0 Q (F0 m 19 ls [.int z_1]) := by
    intro z_1 ez_1 H locs hP hD hS ls hl
    have hsp : sp_X1_modesBehind N n0 n1 n2 mode = z_1 := sq_X1_modesBehind_1 N n0 n1 n2 mode z_1 ez_1
    exact hret _ _ _ _ _ (by rw [hsp]) rfl hP hS dX1_modesBehind_19
  refine lv_if_eq (tgt := 18) hx hb dX1_modesBehind_6 (by decide) (fun c_3 => ?_) (fun c_3 => ?_)
  · skip
    refine lv_iconst (v := 0) hx hb dX1_modesBehind_18 (by decide +kernel) ?_
    exact J_2 0 (by first | (simp only [if_pos c_3]; done) | rfl) _ _ hP hD hS _ (lv_sub hl [] rfl)
  · skip
    refine lv_aload_n hx hb dX1_modesBehind_9 rfl (lv_at hl 0 rfl) ?_
    refine k_get hx hb hts hi1 hown hK hP 0 rfl rfl 2 (by decide) hf18 (.ref a2) rfl dX1_modesBehind_10 ?_
    refine lv_iload_n hx hb dX1_modesBehind_13 rfl (lv_at hl 1 rfl) ?_
    refine k_iald hx hb hK hP 3 0 rfl rfl mode.toNatClampNeg (rfl) (wi_in c_3 (by decide)) dX1_modesBehind_14 ?_
    refine lv_goto (tgt := 19) hx hb dX1_modesBehind_15 (by decide) ?_
    exact J_2 (n2 mode.toNatClampNeg) (by first | (simp only [if_neg c_3]; done) | rfl) _ _ hP hD hS _ (lv_sub hl [] rfl)
