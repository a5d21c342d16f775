/-! CONSTRUCTORS: contracts that make cells. -/
def QC (D : va_G) {S : Type} (wc : va_W) (sz : Nat) (w1 : S → va_W) : Array Value → State → Outcome → State → Prop := va_Qv (fun (_ : S) => True) (fun u t => va_P D vwCl (w1 u) t.heap ∧ va_D (va_A wc sz) (w1 u)) (va_A wc sz)
abbrev RMC (h mc ms : Nat) : Room := { frames := 2 * h + 2, cells := mc, slots := ms, locals := 64 * h + 64 }
abbrev MC (l : Launch) (D : va_G) (tys : List (ClassId × FieldType)) (y : MethodName) (wsy : List Cond) (h mc ms : Nat) (av : List Value) (wc : va_W) {S : Type} (w1 : S → va_W) : Prop := ∀ sz : Nat, Met l y wsy (RMC h mc ms) (PC D tys av wc sz) (QC D wc sz w1) mc ms (va_A wc sz)
theorem k_entC {l : Launch} {D : va_G} {tys : List (ClassId × FieldType)} {y : MethodName} {wsy ws0 : List Cond} {h mc ms : Nat} {av : List Value} {wc : va_W} {S : Type} {w1 : S → va_W} {cc : ByteArray} {maxL : Nat} {lv : List (Nat × Value)} (hy : plainName y.cls = true) (hw : wsy = Cond.code y cc maxL none :: ws0) (hlen : (lg_sl av).length ≤ maxL) (hlv : lv_args 0 av = lv) (hyn : y.name = "<init>")
    (body : ∀ (p : Program) (e : Env) (s : State) (m : MethodId) (below : List Frame) (meth : Method) (c : Code) (A : Nat → Prop) (Q : State → Prop) (ls : Array Slot), p.tables.exec = Jvm.exec → c.code = cc → c.maxLocals = maxL → (∀ w ∈ wsy, w.before av.toArray s = true) → s.vm.findClass y.cls = some m.cls → (∀ q, s.heap.size ≤ q → A q) → va_S A s.heap s.heap [] → va_P D vwCl wc s.heap → va_D A wc → va_K D vwCl tys s → NN s → lv_has ls maxL lv → meth.name = "<init>" →
      (∀ (u : S) (H : Heap) (locs : List Loc) (pc : Nat) (ls : Array Slot), va_P D vwCl (w1 u) H → va_D A (w1 u) → va_S A s.heap H locs → decode cc pc = .ok (.return_, 1) → W p l e (RMC h mc ms) s m av.toArray below meth c H locs mc ms Q (F0 m pc ls [])) →
      W p l e (RMC h mc ms) s m av.toArray below meth c s.heap [] 0 0 Q (F0 m 0 ls [])) : MC l D tys y wsy h mc ms av wc w1 := by
  intro sz
  refine Met.ofW (cc := cc) (maxL := maxL) (ret := none) hy hw ?_
  intro p e s m args below meth c s₁ B hml hv
  obtain ⟨rfl, hsz, hP, hK, hD0, hN⟩ := hv
  have hts := atoms_spec (ws := wsy) B.pre
  have hown : s.vm.findClass y.cls = some m.cls := findClass_of_methodNamed B.named
  have hlocks := B.notSynchronized
  have hx := B.exec
  have hb := B.bytes
  have hr := B.returns
  have hin : meth.name = "<init>" := ((name_of_methodNamed B.named B.method).1).trans hyn
  subst hsz
  have hl := lv_entry av (n := maxL) hlen
  rw [lg_entry_eq]
  rw [hlv] at hl
  refine body p e s m below meth c (va_A wc s.heap.size) _ _ hx hb hml hts hown (fun q h => Or.inr h) va_S.rf hP (hD0.self (sz := s.heap.size)) hK hN hl hin ?_
  intro u H locs pc ls hP hD hS hdg
  exact W.vret hx hb hr (fun t ht hW => ⟨⟨u, rfl, trivial, by show va_P D vwCl (w1 u) t.heap; rw [ht]; exact hP, hD⟩, hS.F ht⟩) hS.2.2 hdg hlocks
section KC
variable {p : Program} {l : Launch} {e : Env} {R : Room} {s : State} {m : MethodId} {args : Array Value} {below : List Frame} {meth : Method} {c : Code} {H H0 : Heap} {locs : List Loc} {cells slots : Nat} {Q : State → Prop} {D : va_G} {A : Nat → Prop} {ws wc wr : va_W} {pc : Nat} {ls : Array Slot} {st0 rest : List Value} {a : Array Value} {cc : ByteArray}
theorem k_fC {S : Type} {mc ms : Nat} {w1 ws' : S → va_W} (hr : va_Run p l e R s m args below meth c H locs cells slots mc ms (F0 m pc ls st0) rest (QC D wc H.size w1 a) (va_A wc H.size)) (hP : va_P D vwCl ws H) (hD : va_D A ws) (hS : va_S A H0 H locs) (hA : ∀ q, H0.size ≤ q → A q) (isC isR : List Nat) (hC : isC.map (fun i => ws[i]?) = wc.map some) (hR : isR.map (fun i => ws[i]?) = wr.map some) (hn : va_nd isR = true) (hdis : ∀ i ∈ isR, i ∉ isC) (he : ∀ u, wr ++ w1 u = ws' u)
    (kk : ∀ (u : S) (H1 : Heap) (locs1 : List Loc), va_P D vwCl (ws' u) H1 → va_D A (ws' u) → va_S A H0 H1 locs1 → W p l e R s m args below meth c H1 locs1 (cells + mc) (slots + ms) Q (F0 m (pc + 3) ls rest)) : W p l e R s m args below meth c H locs cells slots Q (F0 m pc ls st0) := by
  have hF := k_free hD hS hA isC hC
  refine va_callv hr hS (fun q _ h => hF q h) hF (fun u t H1 locs1 ht hvm hw hB hz1 hk1 hS1 => ?_)
  obtain ⟨hP1, hD1⟩ := hB
  rw [ht] at hP1
  obtain ⟨g1, g2⟩ := va_join hP hD isC isR hC hR hn hdis hk1 hF hP1 hD1
  rw [he] at g1 g2
  exact kk u H1 locs1 g1 g2 hS1
variable {y : MethodName} {wsy : List Cond} {h mc ms : Nat} {As : List Value} {bytes : ByteArray} {nL index maxL n : Nat} {Ts : List Cond} {own host : String} {tys : List (ClassId × FieldType)} {b : Nat}
theorem k_IC {S : Type} {w1 ws' : S → va_W} (fx : CallFix p m c cc nL s args Ts own) (hM : MC l D tys y wsy h mc ms (.ref b :: As) wc w1) (cw : CallB R s args own index y bytes maxL none wsy (RMC h mc ms) mc ms n ∧ y.name = "<init>" ∧ (Cond.instanceMethod y).before args s = true) (hK : va_K D vwCl tys s) (hN : NN s) (hP : va_P D vwCl ws H) (hD : va_D A ws) (hS : va_S A H0 H locs) (hA : ∀ q, H0.size ≤ q → A q) (isC isR : List Nat) (hC : isC.map (fun i => ws[i]?) = wc.map some) (hnd : va_nd isC = true) (hR : isR.map (fun i => ws[i]?) = wr.map some) (hnr : va_nd isR = true) (hdis : ∀ i ∈ isR, i ∉ isC) (he : ∀ u, wr ++ w1 u = ws' u) (hn : As.length = n) (hsize : ls.size = nL) (hst : st0 = As.reverse ++ .ref b :: rest) (hW : (rest.map fun v => v.category).sum ≤ 8) (hdg : decode cc pc = .ok (.invokespecial index, 3)) (hf : cells + mc ≤ R.cells ∧ slots + ms ≤ R.slots)
    (kk : ∀ (u : S) (H1 : Heap) (locs1 : List Loc), va_P D vwCl (ws' u) H1 → va_D A (ws' u) → va_S A H0 H1 locs1 → W p l e R s m args below meth c H1 locs1 (cells + mc) (slots + ms) Q (F0 m (pc + 3) ls rest)) : W p l e R s m args below meth c H locs cells slots Q (F0 m pc ls st0) :=
  k_fC (va_runI (As := As) (rest := rest) fx (hM H.size) cw (k_preS (As := .ref b :: As) hK hN hP hD isC hC hnd) rfl hn hsize hst (lv_room hW) hdg hf) hP hD hS hA isC isR hC hR hnr hdis he kk
theorem k_INC {S : Type} {w1 ws' : S → va_W} (fx : CallFix p m c cc nL s args Ts own) (hM : MC l D tys y wsy h mc ms (.ref b :: As) wc w1) (cw : va_CN R s args own index y host bytes maxL none wsy (RMC h mc ms) mc ms n ∧ y.name = "<init>" ∧ (Cond.instanceMethod y).before args s = true) (hK : va_K D vwCl tys s) (hN : NN s) (hP : va_P D vwCl ws H) (hD : va_D A ws) (hS : va_S A H0 H locs) (hA : ∀ q, H0.size ≤ q → A q) (isC isR : List Nat) (hC : isC.map (fun i => ws[i]?) = wc.map some) (hnd : va_nd isC = true) (hR : isR.map (fun i => ws[i]?) = wr.map some) (hnr : va_nd isR = true) (hdis : ∀ i ∈ isR, i ∉ isC) (he : ∀ u, wr ++ w1 u = ws' u) (hn : As.length = n) (hsize : ls.size = nL) (hst : st0 = As.reverse ++ .ref b :: rest) (hW : (rest.map fun v => v.category).sum ≤ 8) (hdg : decode cc pc = .ok (.invokespecial index, 3)) (hf : cells + mc ≤ R.cells ∧ slots + ms ≤ R.slots)
    (kk : ∀ (u : S) (H1 : Heap) (locs1 : List Loc), va_P D vwCl (ws' u) H1 → va_D A (ws' u) → va_S A H0 H1 locs1 → W p l e R s m args below meth c H1 locs1 (cells + mc) (slots + ms) Q (F0 m (pc + 3) ls rest)) : W p l e R s m args below meth c H locs cells slots Q (F0 m pc ls st0) :=
  k_fC (va_runIN (As := As) (rest := rest) fx (hM H.size) cw (k_preS (As := .ref b :: As) hK hN hP hD isC hC hnd) rfl hn hsize hst (lv_room hW) hdg hf) hP hD hS hA isC isR hC hR hnr hdis he kk
theorem k_putF {own C : String} {T : u_T} {N ci index : Nat} {a0 : Nat} {ws' : va_W} (hx : p.tables.exec = Jvm.exec) (hb : c.code = cc) (hts : ∀ w ∈ Ts, w.before args s = true) (hin : ∀ w ∈ u_ws C T N, w ∈ Ts) {ty0 : Nat → FieldType} (hty : ∀ k, k < N → parseFieldDescriptor (T k).2.2.1 = some (ty0 k)) (hnm : ∀ a, a < N → ∀ b, b < N → a ≠ b → (T a).2.1 ≠ (T b).2.1) (hown : s.vm.findClass own = some m.cls) (hK : va_K D vwCl tys s) (hP : va_P D vwCl ws H) (hD : va_D A ws) (hS : va_S A H0 H locs) (q0 : Nat) {fs : List Value} (he : ws[q0]? = some (a0, .inr (ci, fs))) (hc : vwCl[ci]? = some (C, T, N)) (k : Nat) (hk : k < N) (hlink : (Cond.fieldLink own index (T k).1 (T k).2.1 (T k).2.2.1).before args s = true) (hfin : (T k).2.2.2 = true) (hin2 : meth.name = "<init>") (hdecl : (T k).1 = own) (v : Value) (hn : narrow (ty0 k) v = v) (hfit : fits (ty0 k) v = true) (hl : k < fs.length) (hw : ws.set q0 (a0, .inr (ci, fs.set k v)) = ws')
    (hdg : decode cc pc = .ok (.putfield index, 3)) (kk : ∀ (H1 : Heap) (locs1 : List Loc), va_P D vwCl ws' H1 → va_D A ws' → va_S A H0 H1 locs1 → W p l e R s m args below meth c H1 locs1 cells slots Q (F0 m (pc + 3) ls rest)) : W p l e R s m args below meth c H locs cells slots Q (F0 m pc ls (v :: .ref a0 :: rest)) :=
  va_putF hx hb hts hin ty0 hty hnm hown hK hP hD hS q0 he hc k hk hlink (fun _ h => h) hfin hin2 hdecl (hty k hk) hn hfit hl hdg (fun H1 locs1 a b d => kk H1 locs1 (hw ▸ a) (hw ▸ b) d)
theorem k_new {C : String} {T : u_T} {N ci index : Nat} {ws' : Nat → va_W} (hx : p.tables.exec = Jvm.exec) (hb : c.code = cc) (hts : ∀ w ∈ Ts, w.before args s = true) (hin : ∀ w ∈ u_ws C T N, w ∈ Ts) (ty : Nat → FieldType) (hty : ∀ k, k < N → parseFieldDescriptor (T k).2.2.1 = some (ty k)) (hown : s.vm.findClass own = some m.cls) (hcl : (Cond.classLink own index C).before args s = true) (hinst : (Cond.instantiable C N).before args s = true) (hini : (Cond.initialized C).before args s = true) (hK : va_K D vwCl tys s) (hP : va_P D vwCl ws H) (hD : va_D A ws) (hS : va_S A H0 H locs) (hA : ∀ q, H0.size ≤ q → A q) (hc : vwCl[ci]? = some (C, T, N)) (fs : List Value) (hfs : ∀ j, j < N → defaultValue (ty j) = vp_V fs j) (hcells : cells + 1 ≤ R.cells) (hslots : slots + N ≤ R.slots) (hw : ∀ q, ws ++ [(q, .inr (ci, fs))] = ws' q) (hdg : decode cc pc = .ok (.new index, 3)) {k1 n1 : Nat} (hk1 : cells + 1 = k1) (hn1 : slots + N = n1)
    (kk : ∀ (q : Nat) (H1 : Heap), va_P D vwCl (ws' q) H1 → va_D A (ws' q) → va_S A H0 H1 locs → W p l e R s m args below meth c H1 locs k1 n1 Q (F0 m (pc + 3) ls (.ref q :: rest))) : W p l e R s m args below meth c H locs cells slots Q (F0 m pc ls rest) := by
  subst hk1
  subst hn1
  exact va_new hx hb hts hin ty hty hown hcl hinst hini hK hP hD hS hA hc hfs hcells hslots hdg (fun q H1 a b d => kk q H1 (hw q ▸ a) (hw q ▸ b) d)
theorem k_newaI {cI cJ cO : ClassId} {ws' : Nat → va_W} (hx : p.tables.exec = Jvm.exec) (hb : c.code = cc) (harr : (Cond.arrayClass .int).before args s = true) (hK : va_K D vwCl (TY cI cJ cO) s) (hP : va_P D vwCl ws H) (hD : va_D A ws) (hS : va_S A H0 H locs) (hA : ∀ q, H0.size ≤ q → A q) {n : Int32} (N' : Nat) (hn : ¬ n < 0) (hN : n.toNatClampNeg = N') (hbytes : N' * 4 ≤ 536870912) (hcells : cells + 1 ≤ R.cells) (hslots : slots + N' ≤ R.slots) (hw : ∀ q, ws ++ [(q, .inl (cI, N', .inl (fun _ => 0)))] = ws' q) (hdg : decode cc pc = .ok (.newarray .int, 2)) {k1 n1 : Nat} (hk1 : cells + 1 = k1) (hn1 : slots + N' = n1)
    (kk : ∀ (q : Nat) (H1 : Heap), va_P D vwCl (ws' q) H1 → va_D A (ws' q) → va_S A H0 H1 locs → W p l e R s m args below meth c H1 locs k1 n1 Q (F0 m (pc + 2) ls (.ref q :: rest))) : W p l e R s m args below meth c H locs cells slots Q (F0 m pc ls (.int n :: rest)) := by
  subst hk1
  subst hn1
  refine va_newa (atype := .int) (ty := .int) (a0 := (N', .inl (fun _ => 0))) hx hb harr rfl hK hP hD hS hA (fun _ => rfl) hn hN hbytes hcells hslots hdg (fun q cA H1 hK1 a b d => ?_)
  have e1 : va_RA s cA .int := (hK1.2 3 (cA, .int) rfl).2
  have e2 : va_RA s cI .int := (hK.2 0 (cI, .int) rfl).2
  have e : cA = cI := Option.some.inj (e1.symm.trans e2)
  subst e
  exact kk q H1 (hw q ▸ a) (hw q ▸ b) d
theorem k_newaJ {cI cJ cO : ClassId} {ws' : Nat → va_W} (hx : p.tables.exec = Jvm.exec) (hb : c.code = cc) (harr : (Cond.arrayClass .long).before args s = true) (hK : va_K D vwCl (TY cI cJ cO) s) (hP : va_P D vwCl ws H) (hD : va_D A ws) (hS : va_S A H0 H locs) (hA : ∀ q, H0.size ≤ q → A q) {n : Int32} (N' : Nat) (hn : ¬ n < 0) (hN : n.toNatClampNeg = N') (hbytes : N' * 8 ≤ 536870912) (hcells : cells + 1 ≤ R.cells) (hslots : slots + N' ≤ R.slots) (hw : ∀ q, ws ++ [(q, .inl (cJ, N', .inr (.inl (fun _ => 0))))] = ws' q) (hdg : decode cc pc = .ok (.newarray .long, 2)) {k1 n1 : Nat} (hk1 : cells + 1 = k1) (hn1 : slots + N' = n1)
    (kk : ∀ (q : Nat) (H1 : Heap), va_P D vwCl (ws' q) H1 → va_D A (ws' q) → va_S A H0 H1 locs → W p l e R s m args below meth c H1 locs k1 n1 Q (F0 m (pc + 2) ls (.ref q :: rest))) : W p l e R s m args below meth c H locs cells slots Q (F0 m pc ls (.int n :: rest)) := by
  subst hk1
  subst hn1
  refine va_newa (atype := .long) (ty := .long) (a0 := (N', .inr (.inl (fun _ => 0)))) hx hb harr rfl hK hP hD hS hA (fun _ => rfl) hn hN hbytes hcells hslots hdg (fun q cA H1 hK1 a b d => ?_)
  have e1 : va_RA s cA .long := (hK1.2 3 (cA, .long) rfl).2
  have e2 : va_RA s cJ .long := (hK.2 1 (cJ, .long) rfl).2
  have e : cA = cJ := Option.some.inj (e1.symm.trans e2)
  subst e
  exact kk q H1 (hw q ▸ a) (hw q ▸ b) d
theorem k_newaO {cI cJ cO : ClassId} {ws' : Nat → va_W} (hx : p.tables.exec = Jvm.exec) (hb : c.code = cc) (hown : s.vm.findClass own = some m.cls) (hclink : (Cond.classLink own index RX2).before args s = true) (hN0 : NN s) (hK : va_K D vwCl (TY cI cJ cO) s) (hP : va_P D vwCl ws H) (hD : va_D A ws) (hS : va_S A H0 H locs) (hA : ∀ q, H0.size ≤ q → A q) {n : Int32} (N' : Nat) (hn : ¬ n < 0) (hN : n.toNatClampNeg = N') (hbytes : N' * 4 ≤ 536870912) (hcells : cells + 1 ≤ R.cells) (hslots : slots + N' ≤ R.slots) (hw : ∀ q, ws ++ [(q, .inl (cO, N', .inr (.inr (.inr (.inr (fun _ => none))))))] = ws' q) (hdg : decode cc pc = .ok (.anewarray index, 3)) {k1 n1 : Nat} (hk1 : cells + 1 = k1) (hn1 : slots + N' = n1)
    (kk : ∀ (q : Nat) (H1 : Heap), va_P D vwCl (ws' q) H1 → va_D A (ws' q) → va_S A H0 H1 locs → W p l e R s m args below meth c H1 locs k1 n1 Q (F0 m (pc + 3) ls (.ref q :: rest))) : W p l e R s m args below meth c H locs cells slots Q (F0 m pc ls (.int n :: rest)) := by
  subst hk1
  subst hn1
  refine va_newq (C := RX2) hx hb hown hclink hN0.2 hK hP hD hS hA hn hN hbytes hcells hslots hdg (fun q cA H1 hK1 a b d => ?_)
  obtain ⟨k1, c1, f1, f2, f3, f4⟩ := (hK1.2 3 (cA, .object RX2) rfl).2
  obtain ⟨k2, c2, g1, g2, g3, g4⟩ := (hK.2 2 (cO, .object RX2) rfl).2
  have e : cA = cO := Option.some.inj (f4.symm.trans g4)
  subst e
  exact kk q H1 (hw q ▸ a) (hw q ▸ b) d
theorem k_aast {cI cJ cO : ClassId} {a0 v : Nat} {vs : List Value} {f : Nat → Option Nat} {n : Nat} {ws' : va_W} (hx : p.tables.exec = Jvm.exec) (hb : c.code = cc) (hK : va_K D vwCl (TY cI cJ cO) s) (hP : va_P D vwCl ws H) (hD : va_D A ws) (hS : va_S A H0 H locs) (q0 qk : Nat) (ha : ws[q0]? = some (a0, .inl (cO, n, .inr (.inr (.inr (.inr f)))))) (hv : ws[qk]? = some (v, .inr (2, vs))) {i : Int32} (j : Nat) (hj : i.toNatClampNeg = j) (hin : vp_in i n) (hw : ws.set q0 (a0, .inl (cO, n, .inr (.inr (.inr (.inr (va_up f j (some v))))))) = ws') (hdg : decode cc pc = .ok (.aastore, 1))
    (kk : ∀ (H1 : Heap) (locs1 : List Loc), va_P D vwCl ws' H1 → va_D A ws' → va_S A H0 H1 locs1 → W p l e R s m args below meth c H1 locs1 cells slots Q (F0 m (pc + 1) ls rest)) : W p l e R s m args below meth c H locs cells slots Q (F0 m pc ls (.ref v :: .int i :: .ref a0 :: rest)) := by
  subst hj
  exact va_astq hx hb hK hP hD hS q0 2 qk 2 ha rfl hv rfl hin hdg (fun H1 locs1 a b d => kk H1 locs1 (hw ▸ a) (hw ▸ b) d)
end KC
