/-! HELPERS: one row a call, one row a store, worlds that keep their order. -/
def nn_ws : List Cond := [.methodLinkNest RX6 11 yX0_init RX8, .methodLinkNest RX4 65 yX8_within RX8, .methodLinkNest RX3 19 yX8_within RX8, .methodLinkNest RX2 119 yX8_bit RX8, .methodLinkNest RX2 104 yX8_pairCount RX8, .methodLinkNest RX1 40 yX8_within RX8, .methodLinkNest RX0 24 yX8_bit RX8, .methodLinkNest RX8 9 yX5_init RX8, .methodLinkNest RX8 60 yX7_init RX8, .methodLinkNest RX8 44 yX3_init RX8, .methodLinkNest RX8 37 yX1_init RX8, .methodLinkNest RX8 18 yX0_init RX8]
def NN (U : State) : Prop := (∀ (k : Nat) (w : Cond), nn_ws[k]? = some w → va_Nw w U) ∧ va_AO RX2 U
theorem nn_form : ∀ w ∈ nn_ws, ∃ (a : String) (i : Nat) (x : MethodName) (h : String), w = .methodLinkNest a i x h := by
  intro w hw
  simp only [nn_ws, List.mem_cons, List.not_mem_nil, or_false] at hw
  rcases hw with h | h | h | h | h | h | h | h | h | h | h | h <;> exact ⟨_, _, _, _, h⟩
theorem NN.moved {s U : State} (hW : s.WarmedH U.vm) (h : NN s) : NN U := by
  refine ⟨?_, va_AO.moved hW.alike h.2⟩
  intro k w hk
  obtain ⟨a, i, x, g, rfl⟩ := nn_form w (List.mem_of_getElem? hk)
  exact va_Nw.warmM hW (h.1 k _ hk)
theorem NN.same {s U : State} (hv : s.vm = U.vm) (h : NN s) : NN U := by
  refine ⟨?_, va_AO.moved (hv ▸ Vm.Alike.refl s.vm) h.2⟩
  intro k w hk
  obtain ⟨a, i, x, g, rfl⟩ := nn_form w (List.mem_of_getElem? hk)
  exact va_Nw.same rfl hv (h.1 k _ hk)
abbrev TY (cI cJ cO : ClassId) : List (ClassId × FieldType) := [(cI, .int), (cJ, .long), (cO, .object RX2)]
/-- the start of a contract: the arguments, the cells wc, the tables -/
def PC (D : va_G) (tys : List (ClassId × FieldType)) (av : List Value) (wc : va_W) (sz : Nat) : Array Value → State → Prop := va_Pc av (fun U => U.heap.size = sz ∧ va_P D vwCl wc U.heap ∧ va_K D vwCl tys U ∧ va_D (fun _ => True) wc ∧ NN U)
def QI (D : va_G) (rv : Int32) (wc : va_W) (sz : Nat) (w1 : va_W) : Array Value → State → Outcome → State → Prop := va_Qi (fun r (_ : Unit) => r = rv) (fun _ t => va_P D vwCl w1 t.heap) (va_A wc sz)
def QL (D : va_G) (rv : Int64) (wc : va_W) (sz : Nat) (w1 : va_W) : Array Value → State → Outcome → State → Prop := va_Ql (fun r (_ : Unit) => r = rv) (fun _ t => va_P D vwCl w1 t.heap) (va_A wc sz)
def QV (D : va_G) (wc : va_W) (sz : Nat) (w1 : va_W) : Array Value → State → Outcome → State → Prop := va_Qv (fun (_ : Unit) => True) (fun _ t => va_P D vwCl w1 t.heap) (va_A wc sz)
abbrev MI (l : Launch) (D : va_G) (tys : List (ClassId × FieldType)) (y : MethodName) (wsy : List Cond) (rm : Room) (av : List Value) (wc : va_W) (rv : Int32) (w1 : va_W) : Prop := ∀ sz : Nat, Met l y wsy rm (PC D tys av wc sz) (QI D rv wc sz w1) 0 0 (va_A wc sz)
abbrev ML (l : Launch) (D : va_G) (tys : List (ClassId × FieldType)) (y : MethodName) (wsy : List Cond) (rm : Room) (av : List Value) (wc : va_W) (rv : Int64) (w1 : va_W) : Prop := ∀ sz : Nat, Met l y wsy rm (PC D tys av wc sz) (QL D rv wc sz w1) 0 0 (va_A wc sz)
abbrev MV (l : Launch) (D : va_G) (tys : List (ClassId × FieldType)) (y : MethodName) (wsy : List Cond) (rm : Room) (av : List Value) (wc : va_W) (w1 : va_W) : Prop := ∀ sz : Nat, Met l y wsy rm (PC D tys av wc sz) (QV D wc sz w1) 0 0 (va_A wc sz)
abbrev RM (h : Nat) : Room := { frames := 2 * h + 2, cells := 0, slots := 0, locals := 64 * h + 64 }
/-- the world behind a call: the callee's cells at their places -/
def sA (ws : va_W) : List Nat → va_W → va_W
  | i :: is, w :: w1 => sA (ws.set i w) is w1
  | _, _ => ws
theorem sA_get : ∀ (isC : List Nat) (ws w1 : va_W) (k : Nat) (q : Nat × va_E), isC.length = w1.length → (sA ws isC w1)[k]? = some q → (∃ j : Nat, isC[j]? = some k ∧ w1[j]? = some q) ∨ (ws[k]? = some q ∧ k ∉ isC) := by
  intro isC
  induction isC with
  | nil =>
    intro ws w1 k q _ h
    refine Or.inr ⟨?_, List.not_mem_nil⟩
    cases w1 <;> exact h
  | cons i is ih =>
    intro ws w1 k q hl h
    cases w1 with
    | nil => cases hl
    | cons w w1 =>
      rcases ih (ws.set i w) w1 k q (Nat.succ.inj hl) h with ⟨j, h1, h2⟩ | ⟨h1, h2⟩
      · exact Or.inl ⟨j + 1, h1, h2⟩
      · by_cases hk : i = k
        · subst hk
          rw [List.getElem?_set] at h1
          simp only [if_true] at h1
          split at h1
          · exact Or.inl ⟨0, rfl, h1⟩
          · cases h1
        · rw [List.getElem?_set_ne hk] at h1
          exact Or.inr ⟨h1, fun hm => (List.mem_cons.mp hm).elim (fun e => hk e.symm) h2⟩
theorem sA_fst : ∀ (isC : List Nat) (ws w1 : va_W), (∀ (j k : Nat) (q : Nat × va_E), isC[j]? = some k → w1[j]? = some q → (ws.map (·.1))[k]? = some q.1) → (sA ws isC w1).map (·.1) = ws.map (·.1) := by
  intro isC
  induction isC with
  | nil => intro ws w1 _; cases w1 <;> rfl
  | cons i is ih =>
    intro ws w1 h
    cases w1 with
    | nil => rfl
    | cons w w1 =>
      have e : (ws.set i w).map (·.1) = ws.map (·.1) := by
        rw [List.map_set]
        have h0 := h 0 i w rfl rfl
        apply List.ext_getElem?
        intro n
        rw [List.getElem?_set]
        split
        · rename_i hin
          subst hin
          rw [h0]
          split
          · rfl
          · rename_i hlt
            rw [List.getElem?_eq_none (by omega)] at h0
            cases h0
        · rfl
      show (sA (ws.set i w) is w1).map (·.1) = _
      rw [ih (ws.set i w) w1 (fun j k q h1 h2 => by rw [e]; exact h (j + 1) k q h1 h2), e]
theorem va_D_fst {A : Nat → Prop} {ws ws' : va_W} (h : ws'.map (·.1) = ws.map (·.1)) (hD : va_D A ws) : va_D A ws' := by
  have key : ∀ (i : Nat) (p : Nat × va_E), ws'[i]? = some p → ∃ p', ws[i]? = some p' ∧ p'.1 = p.1 := by
    intro i p hp
    have h1 : (ws'.map (·.1))[i]? = some p.1 := by rw [List.getElem?_map, hp]; rfl
    rw [h, List.getElem?_map] at h1
    cases hi : ws[i]? with
    | none => rw [hi] at h1; cases h1
    | some p' => rw [hi] at h1; exact ⟨p', rfl, Option.some.inj h1⟩
  refine ⟨fun i j p q hp hq e => ?_, fun k q hq => ?_⟩
  · obtain ⟨p', h1, h2⟩ := key i p hp
    obtain ⟨q', h3, h4⟩ := key j q hq
    exact hD.1 i j p' q' h1 h3 (by rw [h2, h4, e])
  · obtain ⟨q', h3, h4⟩ := key k q hq
    rw [← h4]
    exact hD.2 k q' h3
theorem pk_at {is : List Nat} {ws w : va_W} (hs : is.map (fun i => ws[i]?) = w.map some) (k : Nat) (q : Nat × va_E) (hq : w[k]? = some q) : ∃ i, is[k]? = some i ∧ ws[i]? = some q := by
  have h1 : (is.map (fun i => ws[i]?))[k]? = some (some q) := by rw [hs, List.getElem?_map, hq]; rfl
  rw [List.getElem?_map] at h1
  cases hi : is[k]? with
  | none => rw [hi] at h1; cases h1
  | some i => rw [hi] at h1; exact ⟨i, rfl, Option.some.inj h1⟩
theorem pk_P {D : va_G} {cl : List vw_C} {is : List Nat} {ws w : va_W} {H : Heap} (hP : va_P D cl ws H) (hs : is.map (fun i => ws[i]?) = w.map some) : va_P D cl w H := fun k q hq => by
  obtain ⟨i, _, h2⟩ := pk_at hs k q hq
  exact hP i q h2
/-- behind a call, every cell in its own place -/
theorem sA_join {A0 : Nat → Prop} {D : va_G} {cl : List vw_C} {ws wc w1 : va_W} {H H1 : Heap} (hP : va_P D cl ws H) (hD : va_D A0 ws) (isC : List Nat) (hC : isC.map (fun i => ws[i]?) = wc.map some) (hf : w1.map (·.1) = wc.map (·.1))
    (hk : ∀ q : Nat, q < H.size → ¬ va_A wc H.size q → H1[q]? = H[q]?) (hP1 : va_P D cl w1 H1) : va_P D cl (sA ws isC w1) H1 ∧ va_D A0 (sA ws isC w1) := by
  have hl : isC.length = w1.length := by
    have h1 := congrArg List.length hC
    have h2 := congrArg List.length hf
    simp only [List.length_map] at h1 h2
    omega
  refine ⟨fun k q hq => ?_, va_D_fst (sA_fst isC ws w1 (fun j k q h1 h2 => ?_)) hD⟩
  · rcases sA_get isC ws w1 k q hl hq with ⟨j, h1, h2⟩ | ⟨h1, h2⟩
    · exact hP1 j q h2
    · refine (hP k q h1).kept (hk q.1 (hP k q h1).lt (fun h => ?_))
      rcases h with ⟨k2, e, h⟩ | h
      · obtain ⟨j, h3, h4⟩ := pk_at hC k2 (q.1, e) h
        have hij := hD.1 k j q (q.1, e) h1 h4 rfl
        subst hij
        exact h2 (List.mem_of_getElem? h3)
      · have := (hP k q h1).lt
        omega
  · have h3 : (w1.map (·.1))[j]? = some q.1 := by rw [List.getElem?_map, h2]; rfl
    rw [hf, List.getElem?_map] at h3
    cases hj : wc[j]? with
    | none => rw [hj] at h3; cases h3
    | some p =>
      rw [hj] at h3
      obtain ⟨i, h4, h5⟩ := pk_at hC j p hj
      have : i = k := by rw [h1] at h4; exact (Option.some.inj h4).symm
      subst this
      rw [List.getElem?_map, h5]
      exact h3
theorem PC_blind {D : va_G} {tys : List (ClassId × FieldType)} {av : List Value} {wc : va_W} {sz : Nat} : FrameBlind (PC D tys av wc sz) := by
  intro a U g mk q
  obtain ⟨q0, q1, qP, qK, qD, qN⟩ := q
  exact ⟨q0, q1, qP, va_K.moved (u := U) (U := U.calling g mk a) (Vm.Alike.refl U.vm) qK, qD, NN.same (s := U) (U := U.calling g mk a) rfl qN⟩
theorem k_preS {s : State} {H : Heap} {D : va_G} {tys : List (ClassId × FieldType)} {As : List Value} {ws wc : va_W} {A : Nat → Prop} (hK : va_K D vwCl tys s) (hN : NN s) (hP : va_P D vwCl ws H) (hD : va_D A ws) (isC : List Nat) (hC : isC.map (fun i => ws[i]?) = wc.map some) (hnd : va_nd isC = true) : PreS s H (PC D tys As wc H.size) As :=
  ⟨PC_blind, fun U hU hW => ⟨rfl, by rw [hU], by rw [hU]; exact pk_P hP hC, va_K.moved hW.alike hK, (hD.sub isC hnd hC).weaken (fun _ _ _ _ => trivial), hN.moved hW⟩⟩
theorem k_preV {s : State} {H : Heap} {D : va_G} {tys : List (ClassId × FieldType)} {b : Nat} {As : List Value} {ws wc : va_W} {A : Nat → Prop} (hK : va_K D vwCl tys s) (hN : NN s) (hP : va_P D vwCl ws H) (hD : va_D A ws) (isC : List Nat) (hC : isC.map (fun i => ws[i]?) = wc.map some) (hnd : va_nd isC = true) {ci q0 : Nat} {q : vw_C} {fs : List Value} (hc : vwCl[ci]? = some q) (he : ws[q0]? = some (b, .inr (ci, fs))) : PreV s H q.1 b (PC D tys (.ref b :: As) wc H.size) As :=
  ⟨PC_blind, va_recv hK hP hc he, (k_preS (As := .ref b :: As) hK hN hP hD isC hC hnd).2⟩
section KV
variable {p : Program} {l : Launch} {e : Env} {R : Room} {s : State} {m : MethodId} {args : Array Value} {below : List Frame} {meth : Method} {c : Code} {H H0 : Heap} {locs : List Loc} {cells slots : Nat} {Q : State → Prop} {D : va_G} {A : Nat → Prop} {ws wc w1 ws' : va_W} {pc : Nat} {ls : Array Slot} {st0 rest : List Value} {a : Array Value}
theorem k_free (hD : va_D A ws) (hS : va_S A H0 H locs) (hA : ∀ q, H0.size ≤ q → A q) (isC : List Nat) (hC : isC.map (fun i => ws[i]?) = wc.map some) : ∀ q, va_A wc H.size q → A q := va_free hD hS hA isC hC
theorem k_fi {rv : Int32} (hr : va_Run p l e R s m args below meth c H locs cells slots 0 0 (F0 m pc ls st0) rest (QI D rv wc H.size w1 a) (va_A wc H.size)) (hP : va_P D vwCl ws H) (hD : va_D A ws) (hS : va_S A H0 H locs) (hA : ∀ q, H0.size ≤ q → A q) (isC : List Nat) (hC : isC.map (fun i => ws[i]?) = wc.map some) (hf : w1.map (·.1) = wc.map (·.1)) (he : sA ws isC w1 = ws')
    (kk : ∀ (H1 : Heap) (locs1 : List Loc), va_P D vwCl ws' H1 → va_D A ws' → va_S A H0 H1 locs1 → W p l e R s m args below meth c H1 locs1 cells slots Q (F0 m (pc + 3) ls (.int rv :: rest))) : W p l e R s m args below meth c H locs cells slots Q (F0 m pc ls st0) := by
  refine va_calli hr hS (fun q _ h => k_free hD hS hA isC hC q h) (k_free hD hS hA isC hC) (fun r u t H1 locs1 ht hvm hw hB hz1 hk1 hS1 => ?_)
  subst hw
  rw [ht] at hB
  obtain ⟨g1, g2⟩ := sA_join hP hD isC hC hf hk1 hB
  rw [he] at g1 g2
  exact kk H1 locs1 g1 g2 hS1
theorem k_fl {rv : Int64} (hr : va_Run p l e R s m args below meth c H locs cells slots 0 0 (F0 m pc ls st0) rest (QL D rv wc H.size w1 a) (va_A wc H.size)) (hP : va_P D vwCl ws H) (hD : va_D A ws) (hS : va_S A H0 H locs) (hA : ∀ q, H0.size ≤ q → A q) (isC : List Nat) (hC : isC.map (fun i => ws[i]?) = wc.map some) (hf : w1.map (·.1) = wc.map (·.1)) (he : sA ws isC w1 = ws')
    (kk : ∀ (H1 : Heap) (locs1 : List Loc), va_P D vwCl ws' H1 → va_D A ws' → va_S A H0 H1 locs1 → W p l e R s m args below meth c H1 locs1 cells slots Q (F0 m (pc + 3) ls (.long rv :: rest))) : W p l e R s m args below meth c H locs cells slots Q (F0 m pc ls st0) := by
  refine va_calll hr hS (fun q _ h => k_free hD hS hA isC hC q h) (k_free hD hS hA isC hC) (fun r u t H1 locs1 ht hvm hw hB hz1 hk1 hS1 => ?_)
  subst hw
  rw [ht] at hB
  obtain ⟨g1, g2⟩ := sA_join hP hD isC hC hf hk1 hB
  rw [he] at g1 g2
  exact kk H1 locs1 g1 g2 hS1
theorem k_fv (hr : va_Run p l e R s m args below meth c H locs cells slots 0 0 (F0 m pc ls st0) rest (QV D wc H.size w1 a) (va_A wc H.size)) (hP : va_P D vwCl ws H) (hD : va_D A ws) (hS : va_S A H0 H locs) (hA : ∀ q, H0.size ≤ q → A q) (isC : List Nat) (hC : isC.map (fun i => ws[i]?) = wc.map some) (hf : w1.map (·.1) = wc.map (·.1)) (he : sA ws isC w1 = ws')
    (kk : ∀ (H1 : Heap) (locs1 : List Loc), va_P D vwCl ws' H1 → va_D A ws' → va_S A H0 H1 locs1 → W p l e R s m args below meth c H1 locs1 cells slots Q (F0 m (pc + 3) ls rest)) : W p l e R s m args below meth c H locs cells slots Q (F0 m pc ls st0) := by
  refine va_callv hr hS (fun q _ h => k_free hD hS hA isC hC q h) (k_free hD hS hA isC hC) (fun u t H1 locs1 ht hvm hw hB hz1 hk1 hS1 => ?_)
  rw [ht] at hB
  obtain ⟨g1, g2⟩ := sA_join hP hD isC hC hf hk1 hB
  rw [he] at g1 g2
  exact kk H1 locs1 g1 g2 hS1
variable {y : MethodName} {wsy : List Cond} {rm : Room} {As : List Value} {cc bytes : ByteArray} {nL index maxL n : Nat} {Ts : List Cond} {own host : String} {tys : List (ClassId × FieldType)} {ret : Option FieldType} {b : Nat}
theorem k_Vi {rv : Int32} (fx : CallFix p m c cc nL s args Ts own) (hM : MI l D tys y wsy rm (.ref b :: As) wc rv w1) {ci q0 : Nat} {q : vw_C} {fs : List Value} (hc : vwCl[ci]? = some q) (he0 : ws[q0]? = some (b, .inr (ci, fs))) (cw : CallW R s args own q.1 index y bytes maxL ret wsy rm 0 0 n) (hK : va_K D vwCl tys s) (hN : NN s) (hP : va_P D vwCl ws H) (hD : va_D A ws) (hS : va_S A H0 H locs) (hA : ∀ q, H0.size ≤ q → A q) (isC : List Nat) (hC : isC.map (fun i => ws[i]?) = wc.map some) (hnd : va_nd isC = true) (hf : w1.map (·.1) = wc.map (·.1)) (he : sA ws isC w1 = ws') (hn : As.length = n) (hsize : ls.size = nL) (hst : st0 = As.reverse ++ .ref b :: rest) (hW : (rest.map fun v => v.category).sum ≤ 8) (hdg : decode cc pc = .ok (.invokevirtual index, 3)) (hR : cells ≤ R.cells ∧ slots ≤ R.slots)
    (kk : ∀ (H1 : Heap) (locs1 : List Loc), va_P D vwCl ws' H1 → va_D A ws' → va_S A H0 H1 locs1 → W p l e R s m args below meth c H1 locs1 cells slots Q (F0 m (pc + 3) ls (.int rv :: rest))) : W p l e R s m args below meth c H locs cells slots Q (F0 m pc ls st0) :=
  k_fi (va_runV (As := As) (rest := rest) fx (hM H.size) cw (k_preV hK hN hP hD isC hC hnd hc he0) rfl hn hsize hst (lv_room hW) hdg hR) hP hD hS hA isC hC hf he kk
theorem k_Vl {rv : Int64} (fx : CallFix p m c cc nL s args Ts own) (hM : ML l D tys y wsy rm (.ref b :: As) wc rv w1) {ci q0 : Nat} {q : vw_C} {fs : List Value} (hc : vwCl[ci]? = some q) (he0 : ws[q0]? = some (b, .inr (ci, fs))) (cw : CallW R s args own q.1 index y bytes maxL ret wsy rm 0 0 n) (hK : va_K D vwCl tys s) (hN : NN s) (hP : va_P D vwCl ws H) (hD : va_D A ws) (hS : va_S A H0 H locs) (hA : ∀ q, H0.size ≤ q → A q) (isC : List Nat) (hC : isC.map (fun i => ws[i]?) = wc.map some) (hnd : va_nd isC = true) (hf : w1.map (·.1) = wc.map (·.1)) (he : sA ws isC w1 = ws') (hn : As.length = n) (hsize : ls.size = nL) (hst : st0 = As.reverse ++ .ref b :: rest) (hW : (rest.map fun v => v.category).sum ≤ 8) (hdg : decode cc pc = .ok (.invokevirtual index, 3)) (hR : cells ≤ R.cells ∧ slots ≤ R.slots)
    (kk : ∀ (H1 : Heap) (locs1 : List Loc), va_P D vwCl ws' H1 → va_D A ws' → va_S A H0 H1 locs1 → W p l e R s m args below meth c H1 locs1 cells slots Q (F0 m (pc + 3) ls (.long rv :: rest))) : W p l e R s m args below meth c H locs cells slots Q (F0 m pc ls st0) :=
  k_fl (va_runV (As := As) (rest := rest) fx (hM H.size) cw (k_preV hK hN hP hD isC hC hnd hc he0) rfl hn hsize hst (lv_room hW) hdg hR) hP hD hS hA isC hC hf he kk
theorem k_Vv (fx : CallFix p m c cc nL s args Ts own) (hM : MV l D tys y wsy rm (.ref b :: As) wc w1) {ci q0 : Nat} {q : vw_C} {fs : List Value} (hc : vwCl[ci]? = some q) (he0 : ws[q0]? = some (b, .inr (ci, fs))) (cw : CallW R s args own q.1 index y bytes maxL ret wsy rm 0 0 n) (hK : va_K D vwCl tys s) (hN : NN s) (hP : va_P D vwCl ws H) (hD : va_D A ws) (hS : va_S A H0 H locs) (hA : ∀ q, H0.size ≤ q → A q) (isC : List Nat) (hC : isC.map (fun i => ws[i]?) = wc.map some) (hnd : va_nd isC = true) (hf : w1.map (·.1) = wc.map (·.1)) (he : sA ws isC w1 = ws') (hn : As.length = n) (hsize : ls.size = nL) (hst : st0 = As.reverse ++ .ref b :: rest) (hW : (rest.map fun v => v.category).sum ≤ 8) (hdg : decode cc pc = .ok (.invokevirtual index, 3)) (hR : cells ≤ R.cells ∧ slots ≤ R.slots)
    (kk : ∀ (H1 : Heap) (locs1 : List Loc), va_P D vwCl ws' H1 → va_D A ws' → va_S A H0 H1 locs1 → W p l e R s m args below meth c H1 locs1 cells slots Q (F0 m (pc + 3) ls rest)) : W p l e R s m args below meth c H locs cells slots Q (F0 m pc ls st0) :=
  k_fv (va_runV (As := As) (rest := rest) fx (hM H.size) cw (k_preV hK hN hP hD isC hC hnd hc he0) rfl hn hsize hst (lv_room hW) hdg hR) hP hD hS hA isC hC hf he kk
theorem k_Si {rv : Int32} (fx : CallFix p m c cc nL s args Ts own) (hM : MI l D tys y wsy rm As wc rv w1) (cw : CallB R s args own index y bytes maxL ret wsy rm 0 0 n ∧ (Cond.static y).before args s = true) (hK : va_K D vwCl tys s) (hN : NN s) (hP : va_P D vwCl ws H) (hD : va_D A ws) (hS : va_S A H0 H locs) (hA : ∀ q, H0.size ≤ q → A q) (isC : List Nat) (hC : isC.map (fun i => ws[i]?) = wc.map some) (hnd : va_nd isC = true) (hf : w1.map (·.1) = wc.map (·.1)) (he : sA ws isC w1 = ws') (hn : As.length = n) (hsize : ls.size = nL) (hst : st0 = As.reverse ++ rest) (hW : (rest.map fun v => v.category).sum ≤ 8) (hdg : decode cc pc = .ok (.invokestatic index, 3)) (hR : cells ≤ R.cells ∧ slots ≤ R.slots)
    (kk : ∀ (H1 : Heap) (locs1 : List Loc), va_P D vwCl ws' H1 → va_D A ws' → va_S A H0 H1 locs1 → W p l e R s m args below meth c H1 locs1 cells slots Q (F0 m (pc + 3) ls (.int rv :: rest))) : W p l e R s m args below meth c H locs cells slots Q (F0 m pc ls st0) :=
  k_fi (va_runS (As := As) (rest := rest) fx (hM H.size) cw (k_preS hK hN hP hD isC hC hnd) rfl hn hsize hst (lv_room hW) hdg hR) hP hD hS hA isC hC hf he kk
theorem k_Sv (fx : CallFix p m c cc nL s args Ts own) (hM : MV l D tys y wsy rm As wc w1) (cw : CallB R s args own index y bytes maxL ret wsy rm 0 0 n ∧ (Cond.static y).before args s = true) (hK : va_K D vwCl tys s) (hN : NN s) (hP : va_P D vwCl ws H) (hD : va_D A ws) (hS : va_S A H0 H locs) (hA : ∀ q, H0.size ≤ q → A q) (isC : List Nat) (hC : isC.map (fun i => ws[i]?) = wc.map some) (hnd : va_nd isC = true) (hf : w1.map (·.1) = wc.map (·.1)) (he : sA ws isC w1 = ws') (hn : As.length = n) (hsize : ls.size = nL) (hst : st0 = As.reverse ++ rest) (hW : (rest.map fun v => v.category).sum ≤ 8) (hdg : decode cc pc = .ok (.invokestatic index, 3)) (hR : cells ≤ R.cells ∧ slots ≤ R.slots)
    (kk : ∀ (H1 : Heap) (locs1 : List Loc), va_P D vwCl ws' H1 → va_D A ws' → va_S A H0 H1 locs1 → W p l e R s m args below meth c H1 locs1 cells slots Q (F0 m (pc + 3) ls rest)) : W p l e R s m args below meth c H locs cells slots Q (F0 m pc ls st0) :=
  k_fv (va_runS (As := As) (rest := rest) fx (hM H.size) cw (k_preS hK hN hP hD isC hC hnd) rfl hn hsize hst (lv_room hW) hdg hR) hP hD hS hA isC hC hf he kk
theorem k_SNi {rv : Int32} (fx : CallFix p m c cc nL s args Ts own) (hM : MI l D tys y wsy rm As wc rv w1) (cw : va_CN R s args own index y host bytes maxL ret wsy rm 0 0 n) (hst' : (Cond.static y).before args s = true) (hK : va_K D vwCl tys s) (hN : NN s) (hP : va_P D vwCl ws H) (hD : va_D A ws) (hS : va_S A H0 H locs) (hA : ∀ q, H0.size ≤ q → A q) (isC : List Nat) (hC : isC.map (fun i => ws[i]?) = wc.map some) (hnd : va_nd isC = true) (hf : w1.map (·.1) = wc.map (·.1)) (he : sA ws isC w1 = ws') (hn : As.length = n) (hsize : ls.size = nL) (hst : st0 = As.reverse ++ rest) (hW : (rest.map fun v => v.category).sum ≤ 8) (hdg : decode cc pc = .ok (.invokestatic index, 3)) (hR : cells ≤ R.cells ∧ slots ≤ R.slots)
    (kk : ∀ (H1 : Heap) (locs1 : List Loc), va_P D vwCl ws' H1 → va_D A ws' → va_S A H0 H1 locs1 → W p l e R s m args below meth c H1 locs1 cells slots Q (F0 m (pc + 3) ls (.int rv :: rest))) : W p l e R s m args below meth c H locs cells slots Q (F0 m pc ls st0) :=
  k_fi (va_runSN (As := As) (rest := rest) fx (hM H.size) ⟨cw, hst', trivial⟩ (k_preS hK hN hP hD isC hC hnd) rfl hn hsize hst (lv_room hW) hdg hR) hP hD hS hA isC hC hf he kk
end KV
section KE
variable {l : Launch} {D : va_G} {tys : List (ClassId × FieldType)} {y : MethodName} {wsy ws0 : List Cond} {rm : Room} {av : List Value} {wc w1 : va_W} {cc : ByteArray} {maxL : Nat} {lv : List (Nat × Value)}
theorem k_entI {ty : FieldType} {rv : Int32} (hy : plainName y.cls = true) (hw : wsy = Cond.code y cc maxL (some ty) :: ws0) (hlen : (lg_sl av).length ≤ maxL) (hlv : lv_args 0 av = lv)
    (body : ∀ (p : Program) (e : Env) (s : State) (m : MethodId) (below : List Frame) (meth : Method) (c : Code) (A : Nat → Prop) (Q : State → Prop) (ls : Array Slot), p.tables.exec = Jvm.exec → c.code = cc → c.maxLocals = maxL → (∀ w ∈ wsy, w.before av.toArray s = true) → s.vm.findClass y.cls = some m.cls → (∀ q, s.heap.size ≤ q → A q) → va_S A s.heap s.heap [] → va_P D vwCl wc s.heap → va_D A wc → va_K D vwCl tys s → NN s → lv_has ls maxL lv →
      (∀ (v : Int32) (H : Heap) (locs : List Loc) (pc : Nat) (ls : Array Slot), v = rv → narrow ty (.int v) = .int v → va_P D vwCl w1 H → va_S A s.heap H locs → decode cc pc = .ok (.ireturn, 1) → W p l e rm s m av.toArray below meth c H locs 0 0 Q (F0 m pc ls [.int v])) →
      W p l e rm s m av.toArray below meth c s.heap [] 0 0 Q (F0 m 0 ls [])) : MI l D tys y wsy rm av wc rv w1 := by
  intro sz
  refine Met.ofW (cc := cc) (maxL := maxL) (ret := some ty) hy hw ?_
  intro p e s m args below meth c s₁ B hml hv
  obtain ⟨rfl, hsz, hP, hK, hD0, hN⟩ := hv
  have hts := atoms_spec (ws := wsy) B.pre
  have hown : s.vm.findClass y.cls = some m.cls := findClass_of_methodNamed B.named
  have hlocks := B.notSynchronized
  have hx := B.exec
  have hb := B.bytes
  have hr := B.returns
  subst hsz
  have hl := lv_entry av (n := maxL) hlen
  rw [lg_entry_eq]
  rw [hlv] at hl
  refine body p e s m below meth c (va_A wc s.heap.size) _ _ hx hb hml hts hown (fun q h => Or.inr h) va_S.rf hP (hD0.self (sz := s.heap.size)) hK hN hl ?_
  intro v H locs pc ls hrv hn hP hS hdg
  exact W.zret hx hb hr hn (fun t ht hW => ⟨⟨v, (), rfl, hrv, by show va_P D vwCl w1 t.heap; rw [ht]; exact hP⟩, hS.F ht⟩) hS.2.2 hdg hlocks
theorem k_entL {rv : Int64} (hy : plainName y.cls = true) (hw : wsy = Cond.code y cc maxL (some .long) :: ws0) (hlen : (lg_sl av).length ≤ maxL) (hlv : lv_args 0 av = lv)
    (body : ∀ (p : Program) (e : Env) (s : State) (m : MethodId) (below : List Frame) (meth : Method) (c : Code) (A : Nat → Prop) (Q : State → Prop) (ls : Array Slot), p.tables.exec = Jvm.exec → c.code = cc → c.maxLocals = maxL → (∀ w ∈ wsy, w.before av.toArray s = true) → s.vm.findClass y.cls = some m.cls → (∀ q, s.heap.size ≤ q → A q) → va_S A s.heap s.heap [] → va_P D vwCl wc s.heap → va_D A wc → va_K D vwCl tys s → NN s → lv_has ls maxL lv →
      (∀ (v : Int64) (H : Heap) (locs : List Loc) (pc : Nat) (ls : Array Slot), v = rv → va_P D vwCl w1 H → va_S A s.heap H locs → decode cc pc = .ok (.lreturn, 1) → W p l e rm s m av.toArray below meth c H locs 0 0 Q (F0 m pc ls [.long v])) →
      W p l e rm s m av.toArray below meth c s.heap [] 0 0 Q (F0 m 0 ls [])) : ML l D tys y wsy rm av wc rv w1 := by
  intro sz
  refine Met.ofW (cc := cc) (maxL := maxL) (ret := some .long) hy hw ?_
  intro p e s m args below meth c s₁ B hml hv
  obtain ⟨rfl, hsz, hP, hK, hD0, hN⟩ := hv
  have hts := atoms_spec (ws := wsy) B.pre
  have hown : s.vm.findClass y.cls = some m.cls := findClass_of_methodNamed B.named
  have hlocks := B.notSynchronized
  have hx := B.exec
  have hb := B.bytes
  have hr := B.returns
  subst hsz
  have hl := lv_entry av (n := maxL) hlen
  rw [lg_entry_eq]
  rw [hlv] at hl
  refine body p e s m below meth c (va_A wc s.heap.size) _ _ hx hb hml hts hown (fun q h => Or.inr h) va_S.rf hP (hD0.self (sz := s.heap.size)) hK hN hl ?_
  intro v H locs pc ls hrv hP hS hdg
  exact W.lret hx hb hr (fun t ht hW => ⟨⟨v, (), rfl, hrv, by show va_P D vwCl w1 t.heap; rw [ht]; exact hP⟩, hS.F ht⟩) hS.2.2 hdg hlocks
theorem k_entV (hy : plainName y.cls = true) (hw : wsy = Cond.code y cc maxL none :: ws0) (hlen : (lg_sl av).length ≤ maxL) (hlv : lv_args 0 av = lv)
    (body : ∀ (p : Program) (e : Env) (s : State) (m : MethodId) (below : List Frame) (meth : Method) (c : Code) (A : Nat → Prop) (Q : State → Prop) (ls : Array Slot), p.tables.exec = Jvm.exec → c.code = cc → c.maxLocals = maxL → (∀ w ∈ wsy, w.before av.toArray s = true) → s.vm.findClass y.cls = some m.cls → (∀ q, s.heap.size ≤ q → A q) → va_S A s.heap s.heap [] → va_P D vwCl wc s.heap → va_D A wc → va_K D vwCl tys s → NN s → lv_has ls maxL lv →
      (∀ (H : Heap) (locs : List Loc) (pc : Nat) (ls : Array Slot), va_P D vwCl w1 H → va_S A s.heap H locs → decode cc pc = .ok (.return_, 1) → W p l e rm s m av.toArray below meth c H locs 0 0 Q (F0 m pc ls [])) →
      W p l e rm s m av.toArray below meth c s.heap [] 0 0 Q (F0 m 0 ls [])) : MV l D tys y wsy rm av wc w1 := by
  intro sz
  refine Met.ofW (cc := cc) (maxL := maxL) (ret := none) hy hw ?_
  intro p e s m args below meth c s₁ B hml hv
  obtain ⟨rfl, hsz, hP, hK, hD0, hN⟩ := hv
  have hts := atoms_spec (ws := wsy) B.pre
  have hown : s.vm.findClass y.cls = some m.cls := findClass_of_methodNamed B.named
  have hlocks := B.notSynchronized
  have hx := B.exec
  have hb := B.bytes
  have hr := B.returns
  subst hsz
  have hl := lv_entry av (n := maxL) hlen
  rw [lg_entry_eq]
  rw [hlv] at hl
  refine body p e s m below meth c (va_A wc s.heap.size) _ _ hx hb hml hts hown (fun q h => Or.inr h) va_S.rf hP (hD0.self (sz := s.heap.size)) hK hN hl ?_
  intro H locs pc ls hP hS hdg
  exact W.vret hx hb hr (fun t ht hW => ⟨⟨(), rfl, trivial, by show va_P D vwCl w1 t.heap; rw [ht]; exact hP⟩, hS.F ht⟩) hS.2.2 hdg hlocks
end KE
section KP
variable {p : Program} {l : Launch} {e : Env} {R : Room} {s : State} {m : MethodId} {args : Array Value} {below : List Frame} {meth : Method} {c : Code} {H H0 : Heap} {locs : List Loc} {cells slots : Nat} {Q : State → Prop} {D : va_G} {A : Nat → Prop} {ws ws' : va_W} {pc : Nat} {ls : Array Slot} {rest : List Value} {cc : ByteArray} {tys : List (ClassId × FieldType)} {a0 : Nat}
theorem k_get (hx : p.tables.exec = Jvm.exec) (hb : c.code = cc) {own C : String} {T : u_T} {N ci index : Nat} {Ts : List Cond} (hts : ∀ w ∈ Ts, w.before args s = true) (hin : ∀ w ∈ u_ws C T N, w ∈ Ts) (hown : s.vm.findClass own = some m.cls) (hK : va_K D vwCl tys s) (hP : va_P D vwCl ws H) (q0 : Nat) {fs : List Value} (he : ws[q0]? = some (a0, .inr (ci, fs))) (hc : vwCl[ci]? = some (C, T, N)) (k : Nat) (hk : k < N) (hlink : (Cond.fieldLink own index (T k).1 (T k).2.1 (T k).2.2.1).before args s = true) (v : Value) (hv : fs[k]? = some v) (hdg : decode cc pc = .ok (.getfield index, 3))
    (kk : W p l e R s m args below meth c H locs cells slots Q (F0 m (pc + 3) ls (v :: rest))) : W p l e R s m args below meth c H locs cells slots Q (F0 m pc ls (.ref a0 :: rest)) :=
  va_get hx hb hts hin hown hK hP q0 he hc k hk hlink (fun _ h => h) hv hdg kk
theorem k_put (hx : p.tables.exec = Jvm.exec) (hb : c.code = cc) {own C : String} {T : u_T} {N ci index : Nat} {Ts : List Cond} (hts : ∀ w ∈ Ts, w.before args s = true) (hin : ∀ w ∈ u_ws C T N, w ∈ Ts) {ty0 : Nat → FieldType} (hty : ∀ k, k < N → parseFieldDescriptor (T k).2.2.1 = some (ty0 k)) (hnm : ∀ a, a < N → ∀ b, b < N → a ≠ b → (T a).2.1 ≠ (T b).2.1) (hown : s.vm.findClass own = some m.cls) (hK : va_K D vwCl tys s) (hP : va_P D vwCl ws H) (hD : va_D A ws) (hS : va_S A H0 H locs) (q0 : Nat) {fs : List Value} (he : ws[q0]? = some (a0, .inr (ci, fs))) (hc : vwCl[ci]? = some (C, T, N)) (k : Nat) (hk : k < N) (hlink : (Cond.fieldLink own index (T k).1 (T k).2.1 (T k).2.2.1).before args s = true) (hfin : (T k).2.2.2 = false) (v : Value) (hn : narrow (ty0 k) v = v) (hfit : fits (ty0 k) v = true) (hl : k < fs.length) (hw : ws.set q0 (a0, .inr (ci, fs.set k v)) = ws')
    (hdg : decode cc pc = .ok (.putfield index, 3)) (kk : ∀ (H1 : Heap) (locs1 : List Loc), va_P D vwCl ws' H1 → va_D A ws' → va_S A H0 H1 locs1 → W p l e R s m args below meth c H1 locs1 cells slots Q (F0 m (pc + 3) ls rest)) : W p l e R s m args below meth c H locs cells slots Q (F0 m pc ls (v :: .ref a0 :: rest)) :=
  va_put hx hb hts hin ty0 hty hnm hown hK hP hD hS q0 he hc k hk hlink (fun _ h => h) hfin (hty k hk) hn hfit hl hdg (fun H1 locs1 a b d => kk H1 locs1 (hw ▸ a) (hw ▸ b) d)
theorem k_iald (hx : p.tables.exec = Jvm.exec) (hb : c.code = cc) (hK : va_K D vwCl tys s) (hP : va_P D vwCl ws H) (q0 t0 : Nat) {cA : ClassId} {n : Nat} {f : Nat → Int32} (ha : ws[q0]? = some (a0, .inl (cA, n, .inl f))) (ht : tys[t0]? = some (cA, .int)) {i : Int32} (j : Nat) (hj : i.toNatClampNeg = j) (hin : vp_in i n) (hdg : decode cc pc = .ok (.iaload, 1))
    (kk : W p l e R s m args below meth c H locs cells slots Q (F0 m (pc + 1) ls (.int (f j) :: rest))) : W p l e R s m args below meth c H locs cells slots Q (F0 m pc ls (.int i :: .ref a0 :: rest)) := by
  subst hj
  exact va_iald hx hb hK hP q0 t0 ha ht hin hdg kk
theorem k_iast (hx : p.tables.exec = Jvm.exec) (hb : c.code = cc) (hK : va_K D vwCl tys s) (hP : va_P D vwCl ws H) (hD : va_D A ws) (hS : va_S A H0 H locs) (q0 t0 : Nat) {cA : ClassId} {n : Nat} {f : Nat → Int32} (ha : ws[q0]? = some (a0, .inl (cA, n, .inl f))) (ht : tys[t0]? = some (cA, .int)) {i : Int32} {x : Int32} (j : Nat) (hj : i.toNatClampNeg = j) (hin : vp_in i n) (hw : ws.set q0 (a0, .inl (cA, n, .inl (upd f j x))) = ws') (hdg : decode cc pc = .ok (.iastore, 1))
    (kk : ∀ (H1 : Heap) (locs1 : List Loc), va_P D vwCl ws' H1 → va_D A ws' → va_S A H0 H1 locs1 → W p l e R s m args below meth c H1 locs1 cells slots Q (F0 m (pc + 1) ls rest)) : W p l e R s m args below meth c H locs cells slots Q (F0 m pc ls (.int x :: .int i :: .ref a0 :: rest)) := by
  subst hj
  exact va_iast hx hb hK hP hD hS q0 t0 ha ht hin hdg (fun H1 locs1 a b d => kk H1 locs1 (hw ▸ a) (hw ▸ b) d)
theorem k_lald (hx : p.tables.exec = Jvm.exec) (hb : c.code = cc) (hK : va_K D vwCl tys s) (hP : va_P D vwCl ws H) (q0 t0 : Nat) {cA : ClassId} {n : Nat} {f : Nat → Int64} (ha : ws[q0]? = some (a0, .inl (cA, n, .inr (.inl f)))) (ht : tys[t0]? = some (cA, .long)) {i : Int32} (j : Nat) (hj : i.toNatClampNeg = j) (hin : vp_in i n) (hdg : decode cc pc = .ok (.laload, 1))
    (kk : W p l e R s m args below meth c H locs cells slots Q (F0 m (pc + 1) ls (.long (f j) :: rest))) : W p l e R s m args below meth c H locs cells slots Q (F0 m pc ls (.int i :: .ref a0 :: rest)) := by
  subst hj
  exact va_lald hx hb hK hP q0 t0 ha ht hin hdg kk
theorem k_last (hx : p.tables.exec = Jvm.exec) (hb : c.code = cc) (hK : va_K D vwCl tys s) (hP : va_P D vwCl ws H) (hD : va_D A ws) (hS : va_S A H0 H locs) (q0 t0 : Nat) {cA : ClassId} {n : Nat} {f : Nat → Int64} (ha : ws[q0]? = some (a0, .inl (cA, n, .inr (.inl f)))) (ht : tys[t0]? = some (cA, .long)) {i : Int32} {x : Int64} (j : Nat) (hj : i.toNatClampNeg = j) (hin : vp_in i n) (hw : ws.set q0 (a0, .inl (cA, n, .inr (.inl (vp_updL f j x)))) = ws') (hdg : decode cc pc = .ok (.lastore, 1))
    (kk : ∀ (H1 : Heap) (locs1 : List Loc), va_P D vwCl ws' H1 → va_D A ws' → va_S A H0 H1 locs1 → W p l e R s m args below meth c H1 locs1 cells slots Q (F0 m (pc + 1) ls rest)) : W p l e R s m args below meth c H locs cells slots Q (F0 m pc ls (.long x :: .int i :: .ref a0 :: rest)) := by
  subst hj
  exact va_last hx hb hK hP hD hS q0 t0 ha ht hin hdg (fun H1 locs1 a b d => kk H1 locs1 (hw ▸ a) (hw ▸ b) d)
end KP
/-- a loop's state at its i-th turn -/
def lp {α : Type} (f : Nat → α → α) : Nat → α → α
  | 0, a => a
  | n + 1, a => f n (lp f n a)
theorem k_eq {B : Int32} {i N : Nat} (hB : B = nI N) (h : B ≤ nI i) (hi : i ≤ N) (hN : N < 2 ^ 31) : i = N := by
  rcases Nat.lt_or_ge i N with q | q
  · exact absurd (hB ▸ h) (nI_ge q hN)
  · exact Nat.le_antisymm hi q
theorem k_lt {B : Int32} {i N : Nat} (hB : B = nI N) (h : ¬ B ≤ nI i) (hi : i ≤ N) (hN : N < 2 ^ 31) : i < N := by
  rcases Nat.lt_or_ge i N with q | q
  · exact q
  · exact absurd (by rw [hB]; exact nI_le q (Nat.lt_of_le_of_lt hi hN)) h
/-- a loop that may end early: fuel, turn, state -/
def lq {α β : Type} (f : Nat → α → α ⊕ β) : Nat → Nat → α → α ⊕ β
  | 0, _, a => .inl a
  | n + 1, i, a => match f i a with
    | .inl a' => lq f n (i + 1) a'
    | .inr b => .inr b
theorem lq_inl {α β : Type} {f : Nat → α → α ⊕ β} {n i : Nat} {a a' : α} (h : f i a = .inl a') : lq f (n + 1) i a = lq f n (i + 1) a' := by
  simp only [lq, h]
theorem lq_inr {α β : Type} {f : Nat → α → α ⊕ β} {n i : Nat} {a : α} {b : β} (h : f i a = .inr b) : lq f (n + 1) i a = .inr b := by
  simp only [lq, h]
def sE {α β : Type} (k : α → β) : α ⊕ β → β
  | .inl a => k a
  | .inr b => b
theorem sE_inl {α β : Type} (k : α → β) (a : α) : sE k (.inl a) = k a := rfl
theorem sE_inr {α β : Type} (k : α → β) (b : β) : sE k (.inr b) = b := rfl
theorem k_aald {p : Program} {l : Launch} {e : Env} {R : Room} {s : State} {m : MethodId} {args : Array Value} {below : List Frame} {meth : Method} {c : Code} {H : Heap} {locs : List Loc} {cells slots : Nat} {Q : State → Prop} {D : va_G} {ws : va_W} {pc : Nat} {ls : Array Slot} {rest : List Value} {cc : ByteArray} {tys : List (ClassId × FieldType)} {a0 : Nat} (hx : p.tables.exec = Jvm.exec) (hb : c.code = cc) (hK : va_K D vwCl tys s) (hP : va_P D vwCl ws H) (q0 t0 : Nat) {cA : ClassId} {C : String} {n : Nat} {pr : Nat → Nat} (ha : ws[q0]? = some (a0, .inl (cA, n, .inr (.inr (.inr (.inr (fun k => some (pr k)))))))) (ht : tys[t0]? = some (cA, .object C)) {i : Int32} (j : Nat) (hj : i.toNatClampNeg = j) (hin : vp_in i n) (hdg : decode cc pc = .ok (.aaload, 1))
    (kk : W p l e R s m args below meth c H locs cells slots Q (F0 m (pc + 1) ls (.ref (pr j) :: rest))) : W p l e R s m args below meth c H locs cells slots Q (F0 m pc ls (.int i :: .ref a0 :: rest)) := by
  subst hj
  exact va_aldq hx hb hK hP q0 t0 ha ht hin hdg kk
theorem dn_val {w : Int32} {i N : Nat} (hw : w = nI (N - i) - 1) (hi : i < N) : w = nI (N - 1 - i) := by
  rw [hw, show N - i = (N - 1 - i) + 1 by omega, nI_pred]
theorem dn_lt {w : Int32} {i N : Nat} (hw : w = nI (N - i) - 1) (h : ¬ w < 0) (hi : i ≤ N) (hN : N < 2 ^ 31) : i < N := by
  rcases Nat.lt_or_ge i N with q | q
  · exact q
  · exact absurd (by rw [hw, show N - i = 0 by omega]; decide) h
theorem dn_eq {w : Int32} {i N : Nat} (hw : w = nI (N - i) - 1) (h : w < 0) (hi : i ≤ N) (hN : N < 2 ^ 31) : i = N := by
  rcases Nat.lt_or_ge i N with q | q
  · exact absurd (dn_val hw q ▸ h) (nI_pos (by omega))
  · exact Nat.le_antisymm hi q
theorem dn_step {i N : Nat} (hi : i < N) : nI (N - 1 - i) + (-1) = nI (N - (i + 1)) - 1 := by
  rw [show N - (i + 1) = N - 1 - i by omega, Int32.sub_eq_add_neg]
