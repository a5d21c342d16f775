/-! PURE 8: STATES as numbers. -/
theorem lN_toInt6 {n : Nat} (h : n < 2 ^ 63) : (lN n).toInt = (n : Int) := lg_ofNat_toInt (by omega)
theorem lN_eq6 {a b : Nat} (ha : a < 2 ^ 63) (hb : b < 2 ^ 63) : lN a = lN b ↔ a = b := by
  constructor
  · intro h
    have := congrArg Int64.toInt h
    rw [lN_toInt6 ha, lN_toInt6 hb] at this
    omega
  · intro h; rw [h]
theorem lN_div {a k : Nat} (ha : a < 2 ^ 63) (hk : k < 2 ^ 63) : lN a / lN k = lN (a / k) := by
  apply Int64.toInt_inj.mp
  have hd : a / k ≤ a := Nat.div_le_self a k
  rw [Int64.toInt_div, lN_toInt6 ha, lN_toInt6 hk, lN_toInt6 (by omega)]
  rw [show ((a : Int).tdiv (k : Int)) = ((a / k : Nat) : Int) from rfl]
  generalize a / k = q at hd
  exact Int.bmod_eq_of_le (by omega) (by omega)
theorem takes_eq {M : Nat → Int32} {x k r : Nat} {by0 : Int64} (hb : by0 = lN k) (hr : r < k) (hk : k < 2 ^ 31) (hx : x * k + r < 2 ^ 63) : sp_X9_takes M (lN (x * k + r)) by0 = (nI r, lN x) := by
  subst hb
  have hdm : (x * k + r) / k = x := by
    rw [Nat.mul_comm, Nat.mul_add_div (by omega), Nat.div_eq_of_lt hr, Nat.add_zero]
  simp only [sp_X9_takes, lN_div hx (show k < 2 ^ 63 by omega), hdm]
  rw [lN_mul, lN_sub (by omega), Nat.add_sub_cancel_left, lN_i]
/-- the reference's number of a STATE -/
def nc (m h s mu mf x0 x1 x2 un cm p br rs : Nat) : Nat := (((((((((((m * 4 + h) * 16 + s) * 8 + mu) * 32 + mf) * 16 + x0) * 16 + x1) * 16 + x2) * 16 + un) * 2 + cm) * 32 + p) * 4 + br) * 2 + rs
/-- the class's -/
def cc_ (m h s mu mf x0 x1 x2 un cm p br rs : Nat) : Nat := ((((((((((((5 + m) * 4 + h) * 10 + s) * 5 + mu) * 31 + mf) * 10 + x0) * 10 + x1) * 10 + x2) * 10 + un) * 2 + cm) * 18 + p) * 4 + br) * 2 + rs
theorem l4 (x h : Nat) (hh : h < 2 ^ 31) (k : Nat) : lN k * lN x + (nI h).toInt64 = lN (x * k + h) := by
  rw [nI_l hh, lN_mul, lN_add, Nat.mul_comm]
theorem l4' (x h : Nat) (hh : h < 2 ^ 31) (k : Nat) : lN x * lN k + (nI h).toInt64 = lN (x * k + h) := by
  rw [nI_l hh, lN_mul, lN_add]
theorem stateOf_eq {M a12 : Nat → Int32} {L : Int64} {m h s mu mf x0 x1 x2 un cm p br rs : Nat} (e7 : M 7 = nI m) (e8 : M 8 = nI h) (e9 : M 9 = nI s) (e10 : M 10 = nI mu) (e11 : M 11 = nI mf) (c0 : a12 0 = nI x0) (c1 : a12 1 = nI x1) (c2 : a12 2 = nI x2) (e13 : M 13 = nI un) (e14 : M 14 = nI cm) (e15 : M 15 = nI p) (e16 : M 16 = nI br) (e17 : M 17 = nI rs)
    (hm : m < 2 ^ 31) (hh : h < 2 ^ 31) (hs : s < 2 ^ 31) (hmu : mu < 2 ^ 31) (hmf : mf < 2 ^ 31) (h0 : x0 < 2 ^ 31) (h1 : x1 < 2 ^ 31) (h2 : x2 < 2 ^ 31) (hu : un < 2 ^ 31) (hc : cm < 2 ^ 31) (hp : p < 2 ^ 31) (hb : br < 2 ^ 31) (hr : rs < 2 ^ 31) : sp_X9_stateOf M L a12 = lN (nc m h s mu mf x0 x1 x2 un cm p br rs) := by
  have e3 : ∀ y : Int64, lp (bd_X9_stateOf_56 a12) 3 y = 16 * (16 * (16 * y + (a12 0).toInt64) + (a12 1).toInt64) + (a12 2).toInt64 := fun y => rfl
  simp only [sp_X9_stateOf, e3, e7, e8, e9, e10, e11, c0, c1, c2, e13, e14, e15, e16, e17]
  rw [show (4 : Int64) = lN 4 from rfl, show (16 : Int64) = lN 16 from rfl, show (8 : Int64) = lN 8 from rfl, show (32 : Int64) = lN 32 from rfl, show (2 : Int64) = lN 2 from rfl, nI_l hm]
  rw [l4 _ _ hh, l4 _ _ hs, l4 _ _ hmu, l4 _ _ hmf, l4 _ _ h0, l4 _ _ h1, l4 _ _ h2, l4 _ _ hu, l4 _ _ hc, l4 _ _ hp, l4 _ _ hb, l4 _ _ hr]
  rfl
theorem number_eq {P : Nat → Int32} {m h s mu mf x0 x1 x2 un cm p br rs : Nat} (e7 : P 2 = nI m) (e8 : P 3 = nI h) (e9 : P 4 = nI s) (e10 : P 5 = nI mu) (e11 : P 6 = nI mf) (c0 : P 7 = nI x0) (c1 : P 8 = nI x1) (c2 : P 9 = nI x2) (e13 : P 10 = nI un) (e14 : P 11 = nI cm) (e15 : P 12 = nI p) (e16 : P 13 = nI br) (e17 : P 14 = nI rs)
    (hm : m < 2 ^ 31) (hh : h < 2 ^ 31) (hs : s < 2 ^ 31) (hmu : mu < 2 ^ 31) (hmf : mf < 2 ^ 31) (h0 : x0 < 2 ^ 31) (h1 : x1 < 2 ^ 31) (h2 : x2 < 2 ^ 31) (hu : un < 2 ^ 31) (hc : cm < 2 ^ 31) (hp : p < 2 ^ 31) (hb : br < 2 ^ 31) (hr : rs < 2 ^ 31) : sp_X2_stateNumber P = lN (cc_ m h s mu mf x0 x1 x2 un cm p br rs) := by
  simp only [sp_X2_stateNumber, e7, e8, e9, e10, e11, c0, c1, c2, e13, e14, e15, e16, e17]
  rw [show (1 : Int64) = lN 1 from rfl, show (5 : Int64) = lN 5 from rfl, show (4 : Int64) = lN 4 from rfl, show (10 : Int64) = lN 10 from rfl, show (31 : Int64) = lN 31 from rfl, show (18 : Int64) = lN 18 from rfl, show (2 : Int64) = lN 2 from rfl]
  rw [l4' _ _ hm, l4' _ _ hh, l4' _ _ hs, l4' _ _ hmu, l4' _ _ hmf, l4' _ _ h0, l4' _ _ h1, l4' _ _ h2, l4' _ _ hu, l4' _ _ hc, l4' _ _ hp, l4' _ _ hb, l4' _ _ hr]
  rw [Nat.one_mul]
  rfl
