/-! LAW 11: what the entry knows; the start. -/
theorem nn_in : ∀ w ∈ nn_ws, w ∈ lw_tbl := in_at _ [232, 639, 560, 431, 417, 479, 376, 58, 253, 212, 180, 85] (by decide +kernel)
set_option maxRecDepth 20000 in
theorem law_K {s : State} {A : Array Value} (hts : ∀ w ∈ lw_tbl, w.before A s = true) : ∃ (D : va_G) (cI cJ cO : ClassId), va_K D vwCl (TY cI cJ cO) s ∧ NN s := by
  obtain ⟨c0, i0, k0⟩ := u_known (C := RX0) (T := TX0) (N := 4) (n := 4) hts inX0 (hts (.instantiable RX0 4) (List.mem_of_getElem? (i := 84) (by decide +kernel)))
  obtain ⟨c1, i1, k1⟩ := u_known (C := RX1) (T := TX1) (N := 7) (n := 7) hts inX1 (hts (.instantiable RX1 7) (List.mem_of_getElem? (i := 179) (by decide +kernel)))
  obtain ⟨c2, i2, k2⟩ := u_known (C := RX2) (T := TX2) (N := 18) (n := 18) hts inX2 (hts (.instantiable RX2 18) (List.mem_of_getElem? (i := 105) (by decide +kernel)))
  obtain ⟨c3, i3, k3⟩ := u_known (C := RX3) (T := TX3) (N := 2) (n := 2) hts inX3 (hts (.instantiable RX3 2) (List.mem_of_getElem? (i := 211) (by decide +kernel)))
  obtain ⟨c4, i4, k4⟩ := u_known (C := RX4) (T := TX4) (N := 7) (n := 7) hts inX4 (hts (.instantiable RX4 7) (List.mem_of_getElem? (i := 280) (by decide +kernel)))
  obtain ⟨c5, i5, k5⟩ := u_known (C := RX5) (T := TX5) (N := 5) (n := 5) hts inX5 (hts (.instantiable RX5 5) (List.mem_of_getElem? (i := 57) (by decide +kernel)))
  obtain ⟨c6, i6, k6⟩ := u_known (C := RX6) (T := TX6) (N := 4) (n := 4) hts inX6 (hts (.instantiable RX6 4) (List.mem_of_getElem? (i := 226) (by decide +kernel)))
  obtain ⟨c7, i7, k7⟩ := u_known (C := RX7) (T := TX7) (N := 7) (n := 7) hts inX7 (hts (.instantiable RX7 7) (List.mem_of_getElem? (i := 252) (by decide +kernel)))
  obtain ⟨c8, i8, k8⟩ := u_known (C := RX8) (T := TX8) (N := 10) (n := 10) hts inX8 (hts (.instantiable RX8 10) (List.mem_of_getElem? (i := 49) (by decide +kernel)))
  obtain ⟨c9, i9, k9⟩ := u_known (C := RX9) (T := TX9) (N := 40) (n := 40) hts inX9 (hts (.instantiable RX9 40) (List.mem_of_getElem? (i := 674) (by decide +kernel)))
  obtain ⟨cI, kI, pI, f1, f2, f3⟩ := Cond.arrayClass_spec (hts (.arrayClass .int) (List.mem_of_getElem? (i := 209) (by decide +kernel)))
  obtain ⟨cJ, kJ, pJ, g1, g2, g3⟩ := Cond.arrayClass_spec (hts (.arrayClass .long) (List.mem_of_getElem? (i := 310) (by decide +kernel)))
  have hao : va_AO RX2 s := va_AO.of ((hts (.arrayOver (.object RX2)) (List.mem_of_getElem? (i := 286) (by decide +kernel))))
  obtain ⟨pO, cO, kO, h1, h2, h3, h4, h5⟩ := Cond.arrayOver_spec hao
  refine ⟨(fun k => if k = 0 then c0 else if k = 1 then c1 else if k = 2 then c2 else if k = 3 then c3 else if k = 4 then c4 else if k = 5 then c5 else if k = 6 then c6 else if k = 7 then c7 else if k = 8 then c8 else c9, fun k => if k = 0 then i0 else if k = 1 then i1 else if k = 2 then i2 else if k = 3 then i3 else if k = 4 then i4 else if k = 5 then i5 else if k = 6 then i6 else if k = 7 then i7 else if k = 8 then i8 else i9), cI, cJ, cO, ⟨?_, ?_⟩, ?_, hao⟩
  · intro k q hq
    match k, hq with
    | 0, hq => cases hq; exact k0
    | 1, hq => cases hq; exact k1
    | 2, hq => cases hq; exact k2
    | 3, hq => cases hq; exact k3
    | 4, hq => cases hq; exact k4
    | 5, hq => cases hq; exact k5
    | 6, hq => cases hq; exact k6
    | 7, hq => cases hq; exact k7
    | 8, hq => cases hq; exact k8
    | 9, hq => cases hq; exact k9
    | k + 10, hq => simp at hq
  · intro k q hq
    match k, hq with
    | 0, hq => cases hq; exact ⟨fun n z => ⟨fun k h => (by cases h), kI, f2, pI, f3⟩, f1⟩
    | 1, hq => cases hq; exact ⟨fun n z => ⟨fun k h => (by cases h), kJ, g2, pJ, g3⟩, g1⟩
    | 2, hq => cases hq; exact ⟨fun n z => ⟨fun k h => (by cases h), kO, h3, pO, h4⟩, kO, pO, h3, h4, h1, h5⟩
    | k + 3, hq => simp at hq
  · intro k w hk
    have hm := nn_in w (List.mem_of_getElem? hk)
    obtain ⟨a, i, x, g, rfl⟩ := nn_form w (List.mem_of_getElem? hk)
    exact va_Nw.of rfl (hts _ hm)
theorem inv0 : INV i_0 i_S i_F i_P i_0 i_0 i_0 i_0 i_0 i_0 i_U i_M i_st i_va i_0 i_0 i_0 i_0 i_0 0 := by
  have z : ∀ k, k < 9 → i_st k = 2 := by
    intro k hk
    rcases (show k = 0 ∨ k = 1 ∨ k = 2 ∨ k = 3 ∨ k = 4 ∨ k = 5 ∨ k = 6 ∨ k = 7 ∨ k = 8 by omega) with rfl | rfl | rfl | rfl | rfl | rfl | rfl | rfl | rfl <;> rfl
  refine ⟨⟨⟨2, by omega, rfl⟩, ⟨3, by omega, rfl⟩, by decide, ⟨12, by omega, rfl⟩, ⟨1, by omega, rfl⟩, 4, by omega, by omega, rfl⟩, ⟨rfl, rfl, rfl, rfl, rfl⟩, ⟨0, 0, by omega, by omega, rfl, rfl, fun k hk => ?_⟩, ⟨rfl, rfl⟩, ⟨rfl, rfl, rfl, rfl, rfl, rfl, rfl, rfl, rfl, rfl, rfl, rfl, rfl, ?_⟩, ⟨⟨1, by omega, rfl⟩, ⟨0, by omega, rfl⟩, ⟨0, by omega, rfl⟩, ⟨0, by omega, rfl⟩, ⟨0, by omega, rfl⟩, ⟨0, by omega, rfl⟩, ⟨0, by omega, rfl⟩, ⟨0, by omega, rfl⟩, ⟨0, by omega, rfl⟩, ⟨0, by omega, rfl⟩, ⟨0, ?_, rfl⟩, ⟨0, by omega, rfl⟩, ⟨0, by omega, rfl⟩⟩, rfl, rfl, ?_, 0, ⟨by omega, rfl, rfl, fun j hj => absurd hj (by omega)⟩, fun g => absurd rfl g⟩
  · rw [Nat.zero_testBit, if_neg (by decide), if_neg (by decide)]
    exact ⟨fun q => absurd q (by decide), z k hk⟩
  · show (-9 : Int32) = if (1 : Int32) = 0 then 0 else (-9)
    decide
  · show 0 < 2 * (4 : Int32).toNatClampNeg
    decide
  · refine ⟨fun _ => 0, fun _ => 0, 0, 0, fun q hq => ⟨rfl, rfl⟩, ?_, by omega, rfl, rfl, fun i hi => absurd hi (by omega), fun i j hi => absurd hi (by omega), ?_, by omega, rfl, ?_, rfl, rfl, fun q hq => rfl⟩
    · rw [sm_zero.mpr (fun _ _ => rfl)]
      omega
    · intro c hc
      exact ⟨fun ⟨i, hi, _⟩ => absurd hi (by omega), fun ⟨p, _, z⟩ => absurd z (Nat.lt_irrefl 0)⟩
    · intro p hp
      rw [Nat.zero_testBit]
      exact ⟨fun z => absurd z (by decide), fun ⟨c, _, z⟩ => absurd z (Nat.lt_irrefl 0)⟩
set_option maxHeartbeats 4000000 in
set_option maxRecDepth 100000 in
theorem whole_start {p : Program} {e : Env} {s : State} {m : MethodId} {below : List Frame} {meth : Method} {c : Code} (l : Launch) (hflags : l.flags = flags0) {b L : Nat} {xs : Nat → Int32} (hL : L ≤ 3072) (C0 : lw_At p s m meth c b L xs) : W p l e room_1 s m #[Value.ref b] below meth c s.heap [] 0 0 (lw_Z below #[Value.ref b] s) (entryFrame m ([Value.ref b] : List Value).toArray 4) := by
  obtain ⟨hx, hb, hr, hml, hown, hts, hX, hbl, hlocks, hgv⟩ := id C0
  have hb : c.code = cL_law := hb
  have hown : s.vm.findClass RL = some m.cls := hown
  have hA : ∀ q : Nat, s.heap.size ≤ q → (fun q : Nat => s.heap.size ≤ q) q := fun _ h => h
  obtain ⟨D, cI, cJ, cO, hK, hN⟩ := law_K hts
  have hS : va_S (fun q : Nat => s.heap.size ≤ q) s.heap s.heap [] := va_S.rf
  have hP : va_P D vwCl [] s.heap := fun k q h => by simp at h
  have hD : va_D (fun q : Nat => s.heap.size ≤ q) [] := ⟨fun i j p q h => by simp at h, fun k q h => by simp at h⟩
  have hl := lv_entry ([.ref b]) (n := 4) (Nat.le_of_ble_eq_true rfl)
  rw [lg_entry_eq]
  generalize (lg_sl ([.ref b]) ++ List.replicate (4 - (lg_sl ([.ref b])).length) Slot.unset).toArray = ls at hl ⊢
  have hl : lv_has ls 4 [(0, .ref b)] := hl
  refine k_new (ci := 8) (ws' := fun q1 => [(q1, .inr (8, [.null, .null, .null, .null, .null, .null, .null, .null, .null, .int 0]))]) hx hb hts inX8 tyX8 tyX8_ok hown (hts (.classLink RL 7 RX8) mL_1_0) (hts (.instantiable RX8 10) mL_1_1) (hts (.initialized RX8) mL_1_2) hK hP hD hS hA rfl [.null, .null, .null, .null, .null, .null, .null, .null, .null, .int 0] (fun j hj => by rcases (show j = 0 ∨ j = 1 ∨ j = 2 ∨ j = 3 ∨ j = 4 ∨ j = 5 ∨ j = 6 ∨ j = 7 ∨ j = 8 ∨ j = 9 by omega) with rfl | rfl | rfl | rfl | rfl | rfl | rfl | rfl | rfl | rfl <;> rfl) (Nat.le_of_ble_eq_true rfl) (Nat.le_of_ble_eq_true rfl) (fun _ => rfl) dL_law_0 (k1 := 1) (n1 := 10) rfl rfl (fun q1 H hP hD hS => ?_)
  refine lv_dup hx hb dL_law_3 rfl ?_
  refine k_IC (As := []) (wr := []) (ws' := fun u : (Nat → Nat) × (Nat → Nat) × (Nat → Nat) => [(q1, oX8 u.1 i_0), ((u.1 0), oX5 i_S), ((u.1 1), oX0 i_F), ((u.1 2), oX2 (u.1 0) (u.1 1) i_P), ((u.1 3), oX2 (u.1 0) (u.1 1) i_P), ((u.1 4), oX1 (u.2.1 0) (u.2.1 1) (u.2.1 2) i_0), ((u.2.1 0), .inl (cI, 90, .inl i_0)), ((u.2.1 1), .inl (cI, 5, .inl i_0)), ((u.2.1 2), .inl (cI, 5, .inl i_0)), ((u.1 5), oX3 (u.2.1 3) i_0), ((u.2.1 3), .inl (cI, 32, .inl i_0)), ((u.1 6), oX6 (u.2.1 4) (u.2.1 5) i_V), ((u.2.1 4), oX0 i_F), ((u.2.1 5), oX2 (u.1 0) (u.2.1 4) i_P), ((u.1 7), oX7 i_U), ((u.1 8), oX4 (u.2.1 6) (u.2.1 7) (u.2.1 8) (u.2.1 9) i_0), ((u.2.1 6), .inl (cO, 6, .inr (.inr (.inr (.inr (fun k => some (u.2.2 k))))))), ((u.2.1 7), .inl (cJ, 2048, .inr (.inl (fun _ => 0)))), ((u.2.1 8), .inl (cI, 5, .inl i_0)), ((u.2.1 9), .inl (cI, 4, .inl i_0)), ((u.2.2 0), oX2 (u.1 0) (u.1 1) i_P), ((u.2.2 1), oX2 (u.1 0) (u.1 1) i_P), ((u.2.2 2), oX2 (u.1 0) (u.1 1) i_P), ((u.2.2 3), oX2 (u.1 0) (u.1 1) i_P), ((u.2.2 4), oX2 (u.1 0) (u.1 1) i_P), ((u.2.2 5), oX2 (u.1 0) (u.1 1) i_P)]) ⟨hx, hb, hml, hown, hts⟩ (c_X8_init l D cI cJ cO q1) (cwI 0 hts gL_law_X8_init rfl rfl rfl (hts (.initialized RX8) mL_1_2) (hts (.methodLink RL 9 yX8_init) mL_1_6) (hts (.instanceMethod yX8_init) mL_1_7) rfl (by decide +kernel) ⟨(Nat.le_of_ble_eq_true rfl), (Nat.le_of_ble_eq_true rfl)⟩) hK hN hP hD hS hA [0] [] rfl rfl rfl (by decide) (by decide) (fun _ => rfl) rfl hl.1 rfl (Nat.le_of_ble_eq_true rfl) dL_law_4 ⟨(Nat.le_of_ble_eq_true rfl), (Nat.le_of_ble_eq_true rfl)⟩ (fun u H locs hP hD hS => ?_)
  obtain ⟨r, v, w⟩ := u
  dsimp only at hP hD
  refine lv_astore_n (lv' := [(1, .ref q1), (0, .ref b)]) hx hb dL_law_7 rfl hl (by decide) rfl (fun ls hl => ?_)
  refine k_new (ci := 9) (ws' := fun q2 => [(q1, oX8 r i_0), ((r 0), oX5 i_S), ((r 1), oX0 i_F), ((r 2), oX2 (r 0) (r 1) i_P), ((r 3), oX2 (r 0) (r 1) i_P), ((r 4), oX1 (v 0) (v 1) (v 2) i_0), ((v 0), .inl (cI, 90, .inl i_0)), ((v 1), .inl (cI, 5, .inl i_0)), ((v 2), .inl (cI, 5, .inl i_0)), ((r 5), oX3 (v 3) i_0), ((v 3), .inl (cI, 32, .inl i_0)), ((r 6), oX6 (v 4) (v 5) i_V), ((v 4), oX0 i_F), ((v 5), oX2 (r 0) (v 4) i_P), ((r 7), oX7 i_U), ((r 8), oX4 (v 6) (v 7) (v 8) (v 9) i_0), ((v 6), .inl (cO, 6, .inr (.inr (.inr (.inr (fun k => some (w k))))))), ((v 7), .inl (cJ, 2048, .inr (.inl (fun _ => 0)))), ((v 8), .inl (cI, 5, .inl i_0)), ((v 9), .inl (cI, 4, .inl i_0)), ((w 0), oX2 (r 0) (r 1) i_P), ((w 1), oX2 (r 0) (r 1) i_P), ((w 2), oX2 (r 0) (r 1) i_P), ((w 3), oX2 (r 0) (r 1) i_P), ((w 4), oX2 (r 0) (r 1) i_P), ((w 5), oX2 (r 0) (r 1) i_P)] ++ [(q2, .inr (9, [.int 0, .int 0, .int 0, .int 0, .int 0, .null, .null, .int 0, .int 0, .int 0, .int 0, .int 0, .null, .int 0, .int 0, .int 0, .int 0, .int 0, .int 0, .int 0, .int 0, .int 0, .int 0, .long 0, .int 0, .int 0, .int 0, .int 0, .null, .null, .int 0, .null, .null, .int 0, .null, .null, .null, .null, .int 0, .int 0]))]) hx hb hts inX9 tyX9 tyX9_ok hown (hts (.classLink RL 10 RX9) mL_1_3) (hts (.instantiable RX9 40) mL_1_4) (hts (.initialized RX9) mL_1_5) hK hP hD hS hA rfl [.int 0, .int 0, .int 0, .int 0, .int 0, .null, .null, .int 0, .int 0, .int 0, .int 0, .int 0, .null, .int 0, .int 0, .int 0, .int 0, .int 0, .int 0, .int 0, .int 0, .int 0, .int 0, .long 0, .int 0, .int 0, .int 0, .int 0, .null, .null, .int 0, .null, .null, .int 0, .null, .null, .null, .null, .int 0, .int 0] (fun j hj => by rcases (show j = 0 ∨ j = 1 ∨ j = 2 ∨ j = 3 ∨ j = 4 ∨ j = 5 ∨ j = 6 ∨ j = 7 ∨ j = 8 ∨ j = 9 ∨ j = 10 ∨ j = 11 ∨ j = 12 ∨ j = 13 ∨ j = 14 ∨ j = 15 ∨ j = 16 ∨ j = 17 ∨ j = 18 ∨ j = 19 ∨ j = 20 ∨ j = 21 ∨ j = 22 ∨ j = 23 ∨ j = 24 ∨ j = 25 ∨ j = 26 ∨ j = 27 ∨ j = 28 ∨ j = 29 ∨ j = 30 ∨ j = 31 ∨ j = 32 ∨ j = 33 ∨ j = 34 ∨ j = 35 ∨ j = 36 ∨ j = 37 ∨ j = 38 ∨ j = 39 by omega) with rfl | rfl | rfl | rfl | rfl | rfl | rfl | rfl | rfl | rfl | rfl | rfl | rfl | rfl | rfl | rfl | rfl | rfl | rfl | rfl | rfl | rfl | rfl | rfl | rfl | rfl | rfl | rfl | rfl | rfl | rfl | rfl | rfl | rfl | rfl | rfl | rfl | rfl | rfl | rfl <;> rfl) (Nat.le_of_ble_eq_true rfl) (Nat.le_of_ble_eq_true rfl) (fun _ => rfl) dL_law_8 (k1 := 27) (n1 := 2447) rfl rfl (fun q2 H hP hD hS => ?_)
  refine lv_dup hx hb dL_law_11 rfl ?_
  refine k_IC (As := []) (wr := [(q1, oX8 r i_0), ((r 0), oX5 i_S), ((r 1), oX0 i_F), ((r 2), oX2 (r 0) (r 1) i_P), ((r 3), oX2 (r 0) (r 1) i_P), ((r 4), oX1 (v 0) (v 1) (v 2) i_0), ((v 0), .inl (cI, 90, .inl i_0)), ((v 1), .inl (cI, 5, .inl i_0)), ((v 2), .inl (cI, 5, .inl i_0)), ((r 5), oX3 (v 3) i_0), ((v 3), .inl (cI, 32, .inl i_0)), ((r 6), oX6 (v 4) (v 5) i_V), ((v 4), oX0 i_F), ((v 5), oX2 (r 0) (v 4) i_P), ((r 7), oX7 i_U), ((r 8), oX4 (v 6) (v 7) (v 8) (v 9) i_0), ((v 6), .inl (cO, 6, .inr (.inr (.inr (.inr (fun k => some (w k))))))), ((v 7), .inl (cJ, 2048, .inr (.inl (fun _ => 0)))), ((v 8), .inl (cI, 5, .inl i_0)), ((v 9), .inl (cI, 4, .inl i_0)), ((w 0), oX2 (r 0) (r 1) i_P), ((w 1), oX2 (r 0) (r 1) i_P), ((w 2), oX2 (r 0) (r 1) i_P), ((w 3), oX2 (r 0) (r 1) i_P), ((w 4), oX2 (r 0) (r 1) i_P), ((w 5), oX2 (r 0) (r 1) i_P)]) (ws' := fun u : Nat → Nat => WD cI cJ cO q1 r v w q2 u i_0 i_S i_F i_P i_P i_0 i_0 i_0 i_0 i_0 i_0 i_V i_F i_P i_U i_0 (fun _ => 0) i_0 i_0 i_P i_P i_P i_P i_P i_P i_M 0 i_st i_va i_0 i_0 i_0 i_0 i_0 i_0 i_0 (fun _ => 0) i_0) ⟨hx, hb, hml, hown, hts⟩ (c_X9_init l D cI cJ cO q2) (cwI 0 hts gL_law_X9_init rfl rfl rfl (hts (.initialized RX9) mL_1_5) (hts (.methodLink RL 12 yX9_init) mL_6_14) (hts (.instanceMethod yX9_init) mL_6_15) rfl (by decide +kernel) ⟨(Nat.le_of_ble_eq_true rfl), (Nat.le_of_ble_eq_true rfl)⟩) hK hN hP hD hS hA [26] [0, 1, 2, 3, 4, 5, 6, 7, 8, 9, 10, 11, 12, 13, 14, 15, 16, 17, 18, 19, 20, 21, 22, 23, 24, 25] rfl rfl rfl (by decide) (by decide) (fun _ => rfl) rfl hl.1 rfl (Nat.le_of_ble_eq_true rfl) dL_law_12 ⟨(Nat.le_of_ble_eq_true rfl), (Nat.le_of_ble_eq_true rfl)⟩ (fun u H locs hP hD hS => ?_)
  refine lv_astore_n (lv' := [(2, .ref q2), (1, .ref q1), (0, .ref b)]) hx hb dL_law_15 rfl hl (by decide) rfl (fun ls hl => ?_)
  refine lv_iconst (v := nI 0) hx hb dL_law_16 (by decide +kernel) ?_
  refine lv_istore_n (lv' := [(3, .int (nI 0)), (2, .ref q2), (1, .ref q1), (0, .ref b)]) hx hb dL_law_17 rfl hl (by decide) rfl (fun ls hl => ?_)
  refine W.widen (k := 38) (n := 5409) (Nat.le_of_ble_eq_true rfl) (Nat.le_of_ble_eq_true rfl) ?_
  exact law_loop hL hr hlocks hx hb hX hbl (fun i hi => ⟨hx, hb, hml, hown, hts, hX, hbl, hK, hN, hi, hL⟩) (L + 1) 0 (by omega) (by omega) i_0 i_S i_F i_P i_P i_0 i_0 i_0 i_0 i_0 i_0 i_V i_F i_P i_U i_0 (fun _ => 0) i_0 i_0 i_P i_P i_P i_P i_P i_P i_M 0 i_st i_va i_0 i_0 i_0 i_0 i_0 i_0 i_0 (fun _ => 0) i_0 H locs ls inv0 hP hD hS (lv_sub hl [3, 2, 1, 0] rfl)
