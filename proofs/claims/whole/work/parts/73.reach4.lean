/-! PURE 33: reach, both answers. -/
theorem goes_OR {P S F M a5 a6 a12 Z c0 p0 : Nat → Int32} {L : Int64} {a36 : Nat → Int64} {a37 : Nat → Int32} {s m n : Nat} (bS : BS S) (rS : RS S M) (rF : RF F a5) (rV : RV F a6) (rP : RP P M a12) (bP : BP P S) (hs : s < 512) (hm : m < 512) (h2 : ¬ 2 < sp_J6_bitCount_0f7a4 (nI m)) (hn : n ≤ 5) {C : (Nat → Int32) × (Nat → Int32)} (eC : C = sp_X4_chooseSets (upd (upd Z 5 0) 6 0) c0 (nI s) (nI m)) : ∀ i, i ≤ 4 ^ n → OR C.2 S F (upd (sp_X2_copyFrom p0 P) 16 0) M (cntOf (nI m)) n (rws C.2 S F (upd (sp_X2_copyFrom p0 P) 16 0) (cntOf (nI m)) n i) (lp (bd_X9_goesAll_25 M L a5 a6 a12 (nI s) (nI m) (nI n)) i ((upd (upd M 38 0) 39 0), L, a12, a36, a37)) := by
  obtain ⟨-, kc, kh, kq, -⟩ := choose_eq hs hm h2 eC
  exact OR_loop bS rS rF rV (RP_EqP rP (start_eq p0 P)) (BP_EqP bP (start_eq p0 P)) rfl hn kc kh kq
theorem reach_ans {c P S F M a5 a6 : Nat → Int32} {cnt n : Nat} {x : (Nat → Int32) × Int64 × (Nat → Int32) × (Nat → Int64) × (Nat → Int32)} {z : (Nat → Int32) × (Nat → Int64) × (Nat → Int32)} (bS : BS S) (rS : RS S M) (rF : RF F a5) (rV : RV F a6) (bP : BP P S) (h0 : P 16 = 0) (hn : n ≤ 5) (hcn : 0 < cnt ∧ cnt ≤ 4) (hc : ∀ k, k < 4 → ∃ q, q < 512 ∧ c k = nI q) (hO : OR c S F P M cnt n (rws c S F P cnt n (4 ^ n)) x) (hS : MS (ev c S F cnt n P 0) z) : x.1 38 = z.1 5 ∧ x.1 39 = z.1 6 ∧ (∀ j, j < 5 → ∀ M' L', lp (bd_X9_reach_86 (nI (10 + j)) M' L' x.2.2.2.1 x.2.2.2.2) (x.1 38).toNatClampNeg (-9) = z.2.2 j) ∧ (∃ N, N ≤ 1365 ∧ x.1 38 = nI N) := by
  obtain ⟨-, -, ⟨N, kf, hC⟩, hl, hM⟩ := hO
  obtain ⟨⟨D, K, -, hK, -, -, hKm, h5⟩, hX, hL⟩ := hS
  have hN := hC.small hn hcn.2 hl
  have same := fun e => rws_mem (c := c) (S := S) (F := F) (P := P) (n := n) hcn e
  have good : ∀ e, e ∈ ev c S F cnt n P 0 → OK e.1 := by
    intro e he
    obtain ⟨f, j, hj, hf, rfl⟩ := (ev_mem n P 0 e).mp he
    exact (qn_good (f := f) bS rS rF rV bP h0 hc j (fun k hk => by have := hf k hk; omega)).1.vp bS
  refine ⟨?_, ?_, fun j hj M' L' => ?_, N, hN, hC.1⟩
  · exact hC.kc.uniq ⟨K, hK, hKm, h5⟩ (fun k => ⟨fun ⟨e, he, w⟩ => ⟨e, (same e).mp he, w⟩, fun ⟨e, he, w⟩ => ⟨e, (same e).mpr he, w⟩⟩)
  · refine hM.uniq hX (fun k ⟨e, he, _, w⟩ => ⟨k, Nat.le_refl _, e, (same e).mp he, w⟩) (fun k ⟨e, he, w⟩ => ?_)
    obtain ⟨r, hr, q⟩ := List.mem_flatMap.mp ((same e).mpr he)
    obtain ⟨j, hj, rfl⟩ := List.mem_map.mp q
    have hj' := List.mem_range.mp hj
    refine ⟨(qn c S F P (rowf cnt r) n 16).toNatClampNeg, ?_, (qn c S F P (rowf cnt r) n, n), List.mem_flatMap.mpr ⟨r, hr, List.mem_map.mpr ⟨n, List.mem_range.mpr (by omega), rfl⟩⟩, rfl, rfl⟩
    have hg := qn_grow (f := rowf cnt r) bS rS rF rV bP h0 hc (n - j) j (by omega) (fun i _ => by
      have : rowf cnt r i < cnt := Nat.mod_lt _ hcn.1
      omega)
    rw [show j + (n - j) = n by omega] at hg
    rw [← w]
    exact hg
  · rw [hC.1, nI_clamp (by omega)]
    exact (mode_all hC hj (fun e he => good e ((same e).mp he))).uniq (hL j hj) (fun k => ⟨fun ⟨e, he, w⟩ => ⟨e, (same e).mp he, w⟩, fun ⟨e, he, w⟩ => ⟨e, (same e).mpr he, w⟩⟩)
