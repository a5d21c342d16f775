/-! PURE 30: all rows, and the class's walk: the same STATES. -/
def rws (c S F P : Nat → Int32) (cnt n m : Nat) : List ((Nat → Int32) × Nat) := (List.range m).flatMap (fun i => pth c S F P cnt i n)
theorem rws_mem {c S F P : Nat → Int32} {cnt n : Nat} (hcn : 0 < cnt ∧ cnt ≤ 4) (e : (Nat → Int32) × Nat) : e ∈ rws c S F P cnt n (4 ^ n) ↔ e ∈ ev c S F cnt n P 0 := by
  constructor
  · intro h
    obtain ⟨i, -, h⟩ := List.mem_flatMap.mp h
    exact pth_ev hcn.1 (Nat.le_refl _) e h
  · intro h
    obtain ⟨f, j, hj, hf, rfl⟩ := (ev_mem n P 0 e).mp h
    obtain ⟨r, hr, hd⟩ := row_of n (fun i => if i < j then f i else 0) (fun i _ => by
      by_cases q : i < j
      · rw [if_pos q]; have := hf i q; omega
      · rw [if_neg q]; omega)
    refine List.mem_flatMap.mpr ⟨r, List.mem_range.mpr hr, List.mem_map.mpr ⟨j, List.mem_range.mpr (by omega), ?_⟩⟩
    rw [Nat.zero_add]
    refine Prod.ext (qn_congr j (fun i hi => ?_)) rfl
    simp only [rowf]
    rw [hd i (by omega), if_pos hi, Nat.mod_eq_of_lt (hf i hi)]
theorem OR_begin {c S F P M a12 : Nat → Int32} {L : Int64} {a36 : Nat → Int64} {a37 : Nat → Int32} {cnt n : Nat} (rP : RP P M a12) : OR c S F P M cnt n [] ((upd (upd M 38 0) 39 0), L, a12, a36, a37) := by
  refine ⟨rP.fr (fun q h1 h2 => ?_), fun q hq => ?_, ⟨0, fun _ => 0, rfl, fun i j h => by omega, fun i h => by omega, fun c => ?_, fun i h => by omega⟩, fun e he => absurd he List.not_mem_nil, ⟨0, by omega, rfl, ?_, .inl rfl⟩⟩
  · show upd (upd M 38 0) 39 0 q = M q
    rw [upd_ne (by omega), upd_ne (by omega)]
  · show upd (upd M 38 0) 39 0 q = M q
    rw [upd_ne (by omega), upd_ne (by omega)]
  · constructor
    · rintro ⟨i, hi, -⟩
      omega
    · rintro ⟨e, he, -⟩
      exact absurd he List.not_mem_nil
  · rintro g ⟨e, he, -⟩
    exact absurd he List.not_mem_nil
theorem OR_loop {c S F P M a5 a6 a12 : Nat → Int32} {L : Int64} {a36 : Nat → Int64} {a37 : Nat → Int32} {set may : Int32} {cnt n : Nat} (bS : BS S) (rS : RS S M) (rF : RF F a5) (rV : RV F a6) (rP : RP P M a12) (bP : BP P S) (h0 : P 16 = 0) (hn : n ≤ 5) (hcn : 0 < cnt ∧ cnt ≤ 4) (hch : ∀ k, k < 4 → sp_X9_chosen set may (nI k) = c (k % cnt)) (hc : ∀ k, k < 4 → ∃ q, q < 512 ∧ c k = nI q) : ∀ m, m ≤ 4 ^ n → OR c S F P M cnt n (rws c S F P cnt n m) (lp (bd_X9_goesAll_25 M L a5 a6 a12 set may (nI n)) m ((upd (upd M 38 0) 39 0), L, a12, a36, a37)) := by
  intro m
  induction m with
  | zero => intro _; exact OR_begin rP
  | succ m ih =>
    intro hm
    have h4 : 4 ^ n ≤ 4 ^ 5 := Nat.pow_le_pow_right (by omega) hn
    have := OR_step (Q := P) (i := m) (L := L) bS rS rF rV rP bP h0 hn hcn hch hc (by omega) (ih (by omega))
    simp only [rws] at this ⊢
    rw [List.range_succ, List.flatMap_append, List.flatMap_singleton]
    exact this
theorem shl_tab : ∀ n : Fin 6, (1 <<< ((2 * nI n.val) &&& 31) : Int32).toNatClampNeg = 4 ^ n.val ∧ ¬ (1 <<< ((2 * nI n.val) &&& 31) : Int32) < 0 := by decide +kernel
theorem okc_of {l : List ((Nat → Int32) × Nat)} {M : Nat → Int32} {a36 : Nat → Int64} {a37 : Nat → Int32} {N : Nat} {kf : Nat → Nat} (h : CM l M a36 a37 N kf) (hN : N ≤ 1365) : okc M := by
  refine ⟨?_, ?_⟩
  · rw [h.1]
    rw [Int32.lt_iff_toInt_lt, nI_toInt (by omega)]
    have z : (0 : Int32).toInt = 0 := by decide
    omega
  · rw [h.1, nI_clamp (by omega)]
    omega
/-- the class's walk has met what stands in ev -/
theorem walk_MS {c S F P M a5 a6 Z w0 : Nat → Int32} {t0 : Nat → Int64} {cnt n : Nat} (bS : BS S) (rS : RS S M) (rF : RF F a5) (rV : RV F a6) (bP : BP P S) (h0 : P 16 = 0) (hn : n ≤ 5) (hcn : 0 < cnt ∧ cnt ≤ 4) (hc : ∀ k, k < 4 → ∃ q, q < 512 ∧ c k = nI q) (ht : TI t0 []) (hw : ∀ j, j < 5 → w0 j = (-9)) (z5 : Z 5 = 0) (z6 : Z 6 = 0) : MS (ev c S F cnt n P 0) (mf (ev c S F cnt n P 0) (Z, t0, w0)) := by
  have h2 := ev_len (c := c) (S := S) (F := F) hcn.2 n P 0
  have h3 : 4 ^ (n + 1) ≤ 4 ^ 6 := Nat.pow_le_pow_right (by omega) (by omega)
  refine MS_fold (ev c S F cnt n P 0) [] (Z, t0, w0) ⟨⟨[], [], ht, List.nodup_nil, rfl, fun x => ?_, fun x => ?_, z5⟩, ⟨0, by omega, z6, ?_, .inl rfl⟩, fun j hj => .inl ⟨hw j hj, ?_⟩⟩ (by rw [List.length_nil]; omega) (fun e he => ?_)
  · exact ⟨fun h => absurd h List.not_mem_nil, fun ⟨e, he, _⟩ => absurd he List.not_mem_nil⟩
  · exact ⟨fun h => absurd h List.not_mem_nil, fun ⟨e, he, _⟩ => absurd he List.not_mem_nil⟩
  · rintro g ⟨e, he, -⟩
    exact absurd he List.not_mem_nil
  · rintro k ⟨e, he, -⟩
    exact absurd he List.not_mem_nil
  · rw [List.nil_append] at he
    obtain ⟨f, j, hj, hf, rfl⟩ := (ev_mem n P 0 e).mp he
    obtain ⟨bq, g, hg, eg⟩ := qn_good (f := f) bS rS rF rV bP h0 hc j (fun k hk => by have := hf k hk; omega)
    exact ⟨bq.vp bS, ⟨g, by omega, eg⟩, by show 0 + j < 64; omega⟩
