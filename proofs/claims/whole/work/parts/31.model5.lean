theorem tries_fr (M : Nat → Int32) (L : Int64) (a5 a6 a12 a32 a34 a35 : Nat → Int32) (input v fr : Int32) (k : Nat) (hk : k < 7 ∨ 23 ≤ k) : (sp_X9_tries M L a5 a6 a12 a32 a34 a35 input v fr).1 k = M k := by
  simp only [sp_X9_tries]
  rw [becomes_fr _ _ _ _ _ _ (by omega)]
  refine (lp_inv (I := fun x : (Nat → Int32) × (Nat → Int32) × (Nat → Int32) × (Nat → Int32) => x.1 k = M k) (fun i x hx => ?_) _ _ (begins_fr _ _ _ _ (by omega)))
  simp only [bd_X9_tries_53]
  exact (tickBy_fr _ _ _ _ _ _ _ hk).trans hx

def bd_X9_trials_47 (a32 : Nat → Int32) (a_7 : Nat → Int32) (i_9 : Nat) (x_10 : (Nat → Int32) × Int64 × (Nat → Int32) × (Nat → Int32) × (Nat → Int32) × (Nat → Int32) × (Nat → Int32) × Int32 × Int32 × Int32 × Int32 × Int32) : (Nat → Int32) × Int64 × (Nat → Int32) × (Nat → Int32) × (Nat → Int32) × (Nat → Int32) × (Nat → Int32) × Int32 × Int32 × Int32 × Int32 × Int32 :=
  (let M_11 : Nat → Int32 := ((sp_X9_tries (x_10.1) (x_10.2.1) (x_10.2.2.1) (x_10.2.2.2.1) (x_10.2.2.2.2.1) a32 (x_10.2.2.2.2.2.1) (x_10.2.2.2.2.2.2.1) (((nI i_9) / 2) - ((nI i_9) / 2) / 9 * 9) ((nI i_9) - (nI i_9) / 2 * 2) ((nI i_9) / 18)).1); (let L_12 : Int64 := ((sp_X9_tries (x_10.1) (x_10.2.1) (x_10.2.2.1) (x_10.2.2.2.1) (x_10.2.2.2.2.1) a32 (x_10.2.2.2.2.2.1) (x_10.2.2.2.2.2.2.1) (((nI i_9) / 2) - ((nI i_9) / 2) / 9 * 9) ((nI i_9) - (nI i_9) / 2 * 2) ((nI i_9) / 18)).2.1); (let a_13 : Nat → Int32 := ((sp_X9_tries (x_10.1) (x_10.2.1) (x_10.2.2.1) (x_10.2.2.2.1) (x_10.2.2.2.2.1) a32 (x_10.2.2.2.2.2.1) (x_10.2.2.2.2.2.2.1) (((nI i_9) / 2) - ((nI i_9) / 2) / 9 * 9) ((nI i_9) - (nI i_9) / 2 * 2) ((nI i_9) / 18)).2.2.1); (let a_14 : Nat → Int32 := ((sp_X9_tries (x_10.1) (x_10.2.1) (x_10.2.2.1) (x_10.2.2.2.1) (x_10.2.2.2.2.1) a32 (x_10.2.2.2.2.2.1) (x_10.2.2.2.2.2.2.1) (((nI i_9) / 2) - ((nI i_9) / 2) / 9 * 9) ((nI i_9) - (nI i_9) / 2 * 2) ((nI i_9) / 18)).2.2.2.1); (let a_15 : Nat → Int32 := ((sp_X9_tries (x_10.1) (x_10.2.1) (x_10.2.2.1) (x_10.2.2.2.1) (x_10.2.2.2.2.1) a32 (x_10.2.2.2.2.2.1) (x_10.2.2.2.2.2.2.1) (((nI i_9) / 2) - ((nI i_9) / 2) / 9 * 9) ((nI i_9) - (nI i_9) / 2 * 2) ((nI i_9) / 18)).2.2.2.2.1); (let a_16 : Nat → Int32 := ((sp_X9_tries (x_10.1) (x_10.2.1) (x_10.2.2.1) (x_10.2.2.2.1) (x_10.2.2.2.2.1) a32 (x_10.2.2.2.2.2.1) (x_10.2.2.2.2.2.2.1) (((nI i_9) / 2) - ((nI i_9) / 2) / 9 * 9) ((nI i_9) - (nI i_9) / 2 * 2) ((nI i_9) / 18)).2.2.2.2.2.1); (let a_17 : Nat → Int32 := ((sp_X9_tries (x_10.1) (x_10.2.1) (x_10.2.2.1) (x_10.2.2.2.1) (x_10.2.2.2.2.1) a32 (x_10.2.2.2.2.2.1) (x_10.2.2.2.2.2.2.1) (((nI i_9) / 2) - ((nI i_9) / 2) / 9 * 9) ((nI i_9) - (nI i_9) / 2 * 2) ((nI i_9) / 18)).2.2.2.2.2.2); (let z_18 : Int32 := (if (a_16 0) ≤ 0 then 0 else 1); (let z_20 : Int32 := (if (a_16 1) = (-9) then 0 else 1); (let z_22 : Int32 := (if (a_16 1) ≤ ((nI i_9) / 18) then (x_10.2.2.2.2.2.2.2.2.2.1) else (if ((a_16 1) - ((nI i_9) / 18)) ≤ (x_10.2.2.2.2.2.2.2.2.2.1) then (x_10.2.2.2.2.2.2.2.2.2.1) else ((a_16 1) - ((nI i_9) / 18)))); (let z_24 : Int32 := (if (a_16 0) ≤ (x_10.2.2.2.2.2.2.2.2.2.2.1) then (x_10.2.2.2.2.2.2.2.2.2.2.1) else (a_16 0)); (let z_26 : Int32 := (if (a_7 4) ≤ (a_16 4) then 0 else 1); (M_11, L_12, a_13, a_14, a_15, a_16, a_17, ((x_10.2.2.2.2.2.2.2.1) + z_18), ((x_10.2.2.2.2.2.2.2.2.1) + z_20), z_22, z_24, ((x_10.2.2.2.2.2.2.2.2.2.2.2) + z_26))))))))))))))
def sp_X9_trials (M : Nat → Int32) (L : Int64) (a5 : Nat → Int32) (a6 : Nat → Int32) (a12 : Nat → Int32) (a32 : Nat → Int32) (a34 : Nat → Int32) (a35 : Nat → Int32) (what : Int32) : Int32 × (Nat → Int32) × (Int64) × (Nat → Int32) × (Nat → Int32) × (Nat → Int32) × (Nat → Int32) × (Nat → Int32) :=
  (if (sp_X9_within what 0 5) = 0 then
    ((-2), M, L, a5, a6, a12, a34, a35)
  else
    let M_2 : Nat → Int32 := ((sp_X9_tries M L a5 a6 a12 a32 a34 a35 0 0 (M 33)).1)
    let L_3 : Int64 := ((sp_X9_tries M L a5 a6 a12 a32 a34 a35 0 0 (M 33)).2.1)
    let a_4 : Nat → Int32 := ((sp_X9_tries M L a5 a6 a12 a32 a34 a35 0 0 (M 33)).2.2.1)
    let a_5 : Nat → Int32 := ((sp_X9_tries M L a5 a6 a12 a32 a34 a35 0 0 (M 33)).2.2.2.1)
    let a_6 : Nat → Int32 := ((sp_X9_tries M L a5 a6 a12 a32 a34 a35 0 0 (M 33)).2.2.2.2.1)
    let a_7 : Nat → Int32 := ((sp_X9_tries M L a5 a6 a12 a32 a34 a35 0 0 (M 33)).2.2.2.2.2.1)
    let a_8 : Nat → Int32 := ((sp_X9_tries M L a5 a6 a12 a32 a34 a35 0 0 (M 33)).2.2.2.2.2.2)
    let x_10 : (Nat → Int32) × Int64 × (Nat → Int32) × (Nat → Int32) × (Nat → Int32) × (Nat → Int32) × (Nat → Int32) × Int32 × Int32 × Int32 × Int32 × Int32 := lp (bd_X9_trials_47 a32 a_7) ((18 * (M 33)).toNatClampNeg) (M_2, L_3, a_4, a_5, a_6, a_7, a_8, 0, 0, (-9), 0, 0)
    (if what = 0 then
      ((18 * ((x_10.1) 33)), (x_10.1), (x_10.2.1), (x_10.2.2.1), (x_10.2.2.2.1), (x_10.2.2.2.2.1), (x_10.2.2.2.2.2.1), (x_10.2.2.2.2.2.2.1))
    else
      (if what = 1 then
        ((x_10.2.2.2.2.2.2.2.1), (x_10.1), (x_10.2.1), (x_10.2.2.1), (x_10.2.2.2.1), (x_10.2.2.2.2.1), (x_10.2.2.2.2.2.1), (x_10.2.2.2.2.2.2.1))
      else
        (if what = 2 then
          ((x_10.2.2.2.2.2.2.2.2.1), (x_10.1), (x_10.2.1), (x_10.2.2.1), (x_10.2.2.2.1), (x_10.2.2.2.2.1), (x_10.2.2.2.2.2.1), (x_10.2.2.2.2.2.2.1))
        else
          (if what = 3 then
            ((x_10.2.2.2.2.2.2.2.2.2.1), (x_10.1), (x_10.2.1), (x_10.2.2.1), (x_10.2.2.2.1), (x_10.2.2.2.2.1), (x_10.2.2.2.2.2.1), (x_10.2.2.2.2.2.2.1))
          else
            (if what = 4 then
              ((x_10.2.2.2.2.2.2.2.2.2.2.1), (x_10.1), (x_10.2.1), (x_10.2.2.1), (x_10.2.2.2.1), (x_10.2.2.2.2.1), (x_10.2.2.2.2.2.1), (x_10.2.2.2.2.2.2.1))
            else
              ((x_10.2.2.2.2.2.2.2.2.2.2.2), (x_10.1), (x_10.2.1), (x_10.2.2.1), (x_10.2.2.2.1), (x_10.2.2.2.2.1), (x_10.2.2.2.2.2.1), (x_10.2.2.2.2.2.2.1))))))))
set_option maxRecDepth 100000 in
theorem sq_X9_trials_1 (M : Nat → Int32) (L : Int64) (a5 : Nat → Int32) (a6 : Nat → Int32) (a12 : Nat → Int32) (a32 : Nat → Int32) (a34 : Nat → Int32) (a35 : Nat → Int32) (what : Int32) (M_2 : Nat → Int32) (L_3 : Int64) (a_4 : Nat → Int32) (a_5 : Nat → Int32) (a_6 : Nat → Int32) (a_7 : Nat → Int32) (a_8 : Nat → Int32) (x_10 : (Nat → Int32) × Int64 × (Nat → Int32) × (Nat → Int32) × (Nat → Int32) × (Nat → Int32) × (Nat → Int32) × Int32 × Int32 × Int32 × Int32 × Int32) (eM_2 : M_2 = ((sp_X9_tries M L a5 a6 a12 a32 a34 a35 0 0 (M 33)).1)) (eL_3 : L_3 = ((sp_X9_tries M L a5 a6 a12 a32 a34 a35 0 0 (M 33)).2.1)) (ea_4 : a_4 = ((sp_X9_tries M L a5 a6 a12 a32 a34 a35 0 0 (M 33)).2.2.1)) (ea_5 : a_5 = ((sp_X9_tries M L a5 a6 a12 a32 a34 a35 0 0 (M 33)).2.2.2.1)) (ea_6 : a_6 = ((sp_X9_tries M L a5 a6 a12 a32 a34 a35 0 0 (M 33)).2.2.2.2.1)) (ea_7 : a_7 = ((sp_X9_tries M L a5 a6 a12 a32 a34 a35 0 0 (M 33)).2.2.2.2.2.1)) (ea_8 : a_8 = ((sp_X9_tries M L a5 a6 a12 a32 a34 a35 0 0 (M 33)).2.2.2.2.2.2)) (ex_10 : x_10 = lp (bd_X9_trials_47 a32 a_7) ((18 * (M 33)).toNatClampNeg) (M_2, L_3, a_4, a_5, a_6, a_7, a_8, 0, 0, (-9), 0, 0)) (c_1 : ¬ ((sp_X9_within what 0 5) = 0)) (c_12 : what = 0) : sp_X9_trials M L a5 a6 a12 a32 a34 a35 what = ((18 * ((x_10.1) 33)), (x_10.1), (x_10.2.1), (x_10.2.2.1), (x_10.2.2.2.1), (x_10.2.2.2.2.1), (x_10.2.2.2.2.2.1), (x_10.2.2.2.2.2.2.1)) := by subst ex_10; subst ea_8; subst ea_7; subst ea_6; subst ea_5; subst ea_4; subst eL_3; subst eM_2; simp only [sp_X9_trials, if_neg c_1, if_pos c_12]
set_option maxRecDepth 100000 in
theorem sq_X9_trials_2 (M : Nat → Int32) (L : Int64) (a5 : Nat → Int32) (a6 : Nat → Int32) (a12 : Nat → Int32) (a32 : Nat → Int32) (a34 : Nat → Int32) (a35 : Nat → Int32) (what : Int32) (M_2 : Nat → Int32) (L_3 : Int64) (a_4 : Nat → Int32) (a_5 : Nat → Int32) (a_6 : Nat → Int32) (a_7 : Nat → Int32) (a_8 : Nat → Int32) (x_10 : (Nat → Int32) × Int64 × (Nat → Int32) × (Nat → Int32) × (Nat → Int32) × (Nat → Int32) × (Nat → Int32) × Int32 × Int32 × Int32 × Int32 × Int32) (eM_2 : M_2 = ((sp_X9_tries M L a5 a6 a12 a32 a34 a35 0 0 (M 33)).1)) (eL_3 : L_3 = ((sp_X9_tries M L a5 a6 a12 a32 a34 a35 0 0 (M 33)).2.1)) (ea_4 : a_4 = ((sp_X9_tries M L a5 a6 a12 a32 a34 a35 0 0 (M 33)).2.2.1)) (ea_5 : a_5 = ((sp_X9_tries M L a5 a6 a12 a32 a34 a35 0 0 (M 33)).2.2.2.1)) (ea_6 : a_6 = ((sp_X9_tries M L a5 a6 a12 a32 a34 a35 0 0 (M 33)).2.2.2.2.1)) (ea_7 : a_7 = ((sp_X9_tries M L a5 a6 a12 a32 a34 a35 0 0 (M 33)).2.2.2.2.2.1)) (ea_8 : a_8 = ((sp_X9_tries M L a5 a6 a12 a32 a34 a35 0 0 (M 33)).2.2.2.2.2.2)) (ex_10 : x_10 = lp (bd_X9_trials_47 a32 a_7) ((18 * (M 33)).toNatClampNeg) (M_2, L_3, a_4, a_5, a_6, a_7, a_8, 0, 0, (-9), 0, 0)) (c_1 : ¬ ((sp_X9_within what 0 5) = 0)) (c_12 : ¬ (what = 0)) (c_13 : what = 1) : sp_X9_trials M L a5 a6 a12 a32 a34 a35 what = ((x_10.2.2.2.2.2.2.2.1), (x_10.1), (x_10.2.1), (x_10.2.2.1), (x_10.2.2.2.1), (x_10.2.2.2.2.1), (x_10.2.2.2.2.2.1), (x_10.2.2.2.2.2.2.1)) := by subst ex_10; subst ea_8; subst ea_7; subst ea_6; subst ea_5; subst ea_4; subst eL_3; subst eM_2; simp only [sp_X9_trials, if_neg c_1, if_neg c_12, if_pos c_13]
set_option maxRecDepth 100000 in
theorem sq_X9_trials_3 (M : Nat → Int32) (L : Int64) (a5 : Nat → Int32) (a6 : Nat → Int32) (a12 : Nat → Int32) (a32 : Nat → Int32) (a34 : Nat → Int32) (a35 : Nat → Int32) (what : Int32) (M_2 : Nat → Int32) (L_3 : Int64) (a_4 : Nat → Int32) (a_5 : Nat → Int32) (a_6 : Nat → Int32) (a_7 : Nat → Int32) (a_8 : Nat → Int32) (x_10 : (Nat → Int32) × Int64 × (Nat → Int32) × (Nat → Int32) × (Nat → Int32) × (Nat → Int32) × (Nat → Int32) × Int32 × Int32 × Int32 × Int32 × Int32) (eM_2 : M_2 = ((sp_X9_tries M L a5 a6 a12 a32 a34 a35 0 0 (M 33)).1)) (eL_3 : L_3 = ((sp_X9_tries M L a5 a6 a12 a32 a34 a35 0 0 (M 33)).2.1)) (ea_4 : a_4 = ((sp_X9_tries M L a5 a6 a12 a32 a34 a35 0 0 (M 33)).2.2.1)) (ea_5 : a_5 = ((sp_X9_tries M L a5 a6 a12 a32 a34 a35 0 0 (M 33)).2.2.2.1)) (ea_6 : a_6 = ((sp_X9_tries M L a5 a6 a12 a32 a34 a35 0 0 (M 33)).2.2.2.2.1)) (ea_7 : a_7 = ((sp_X9_tries M L a5 a6 a12 a32 a34 a35 0 0 (M 33)).2.2.2.2.2.1)) (ea_8 : a_8 = ((sp_X9_tries M L a5 a6 a12 a32 a34 a35 0 0 (M 33)).2.2.2.2.2.2)) (ex_10 : x_10 = lp (bd_X9_trials_47 a32 a_7) ((18 * (M 33)).toNatClampNeg) (M_2, L_3, a_4, a_5, a_6, a_7, a_8, 0, 0, (-9), 0, 0)) (c_1 : ¬ ((sp_X9_within what 0 5) = 0)) (c_12 : ¬ (what = 0)) (c_13 : ¬ (what = 1)) (c_14 : what = 2) : sp_X9_trials M L a5 a6 a12 a32 a34 a35 what = ((x_10.2.2.2.2.2.2.2.2.1), (x_10.1), (x_10.2.1), (x_10.2.2.1), (x_10.2.2.2.1), (x_10.2.2.2.2.1), (x_10.2.2.2.2.2.1), (x_10.2.2.2.2.2.2.1)) := by subst ex_10; subst ea_8; subst ea_7; subst ea_6; subst ea_5; subst ea_4; subst eL_3; subst eM_2; simp only [sp_X9_trials, if_neg c_1, if_neg c_12, if_neg c_13, if_pos c_14]
set_option maxRecDepth 100000 in
theorem sq_X9_trials_4 (M : Nat → Int32) (L : Int64) (a5 : Nat → Int32) (a6 : Nat → Int32) (a12 : Nat → Int32) (a32 : Nat → Int32) (a34 : Nat → Int32) (a35 : Nat → Int32) (what : Int32) (M_2 : Nat → Int32) (L_3 : Int64) (a_4 : Nat → Int32) (a_5 : Nat → Int32) (a_6 : Nat → Int32) (a_7 : Nat → Int32) (a_8 : Nat → Int32) (x_10 : (Nat → Int32) × Int64 × (Nat → Int32) × (Nat → Int32) × (Nat → Int32) × (Nat → Int32) × (Nat → Int32) × Int32 × Int32 × Int32 × Int32 × Int32) (eM_2 : M_2 = ((sp_X9_tries M L a5 a6 a12 a32 a34 a35 0 0 (M 33)).1)) (eL_3 : L_3 = ((sp_X9_tries M L a5 a6 a12 a32 a34 a35 0 0 (M 33)).2.1)) (ea_4 : a_4 = ((sp_X9_tries M L a5 a6 a12 a32 a34 a35 0 0 (M 33)).2.2.1)) (ea_5 : a_5 = ((sp_X9_tries M L a5 a6 a12 a32 a34 a35 0 0 (M 33)).2.2.2.1)) (ea_6 : a_6 = ((sp_X9_tries M L a5 a6 a12 a32 a34 a35 0 0 (M 33)).2.2.2.2.1)) (ea_7 : a_7 = ((sp_X9_tries M L a5 a6 a12 a32 a34 a35 0 0 (M 33)).2.2.2.2.2.1)) (ea_8 : a_8 = ((sp_X9_tries M L a5 a6 a12 a32 a34 a35 0 0 (M 33)).2.2.2.2.2.2)) (ex_10 : x_10 = lp (bd_X9_trials_47 a32 a_7) ((18 * (M 33)).toNatClampNeg) (M_2, L_3, a_4, a_5, a_6, a_7, a_8, 0, 0, (-9), 0, 0)) (c_1 : ¬ ((sp_X9_within what 0 5) = 0)) (c_12 : ¬ (what = 0)) (c_13 : ¬ (what = 1)) (c_14 : ¬ (what = 2)) (c_15 : what = 3) : sp_X9_trials M L a5 a6 a12 a32 a34 a35 what = ((x_10.2.2.2.2.2.2.2.2.2.1), (x_10.1), (x_10.2.1), (x_10.2.2.1), (x_10.2.2.2.1), (x_10.2.2.2.2.1), (x_10.2.2.2.2.2.1), (x_10.2.2.2.2.2.2.1)) := by subst ex_10; subst ea_8; subst ea_7; subst ea_6; subst ea_5; subst ea_4; subst eL_3; subst eM_2; simp only [sp_X9_trials, if_neg c_1, if_neg c_12, if_neg c_13, if_neg c_14, if_pos c_15]
set_option maxRecDepth 100000 in
theorem sq_X9_trials_5 (M : Nat → Int32) (L : Int64) (a5 : Nat → Int32) (a6 : Nat → Int32) (a12 : Nat → Int32) (a32 : Nat → Int32) (a34 : Nat → Int32) (a35 : Nat → Int32) (what : Int32) (M_2 : Nat → Int32) (L_3 : Int64) (a_4 : Nat → Int32) (a_5 : Nat → Int32) (a_6 : Nat → Int32) (a_7 : Nat → Int32) (a_8 : Nat → Int32) (x_10 : (Nat → Int32) × Int64 × (Nat → Int32) × (Nat → Int32) × (Nat → Int32) × (Nat → Int32) × (Nat → Int32) × Int32 × Int32 × Int32 × Int32 × Int32) (eM_2 : M_2 = ((sp_X9_tries M L a5 a6 a12 a32 a34 a35 0 0 (M 33)).1)) (eL_3 : L_3 = ((sp_X9_tries M L a5 a6 a12 a32 a34 a35 0 0 (M 33)).2.1)) (ea_4 : a_4 = ((sp_X9_tries M L a5 a6 a12 a32 a34 a35 0 0 (M 33)).2.2.1)) (ea_5 : a_5 = ((sp_X9_tries M L a5 a6 a12 a32 a34 a35 0 0 (M 33)).2.2.2.1)) (ea_6 : a_6 = ((sp_X9_tries M L a5 a6 a12 a32 a34 a35 0 0 (M 33)).2.2.2.2.1)) (ea_7 : a_7 = ((sp_X9_tries M L a5 a6 a12 a32 a34 a35 0 0 (M 33)).2.2.2.2.2.1)) (ea_8 : a_8 = ((sp_X9_tries M L a5 a6 a12 a32 a34 a35 0 0 (M 33)).2.2.2.2.2.2)) (ex_10 : x_10 = lp (bd_X9_trials_47 a32 a_7) ((18 * (M 33)).toNatClampNeg) (M_2, L_3, a_4, a_5, a_6, a_7, a_8, 0, 0, (-9), 0, 0)) (c_1 : ¬ ((sp_X9_within what 0 5) = 0)) (c_12 : ¬ (what = 0)) (c_13 : ¬ (what = 1)) (c_14 : ¬ (what = 2)) (c_15 : ¬ (what = 3)) (c_16 : what = 4) : sp_X9_trials M L a5 a6 a12 a32 a34 a35 what = ((x_10.2.2.2.2.2.2.2.2.2.2.1), (x_10.1), (x_10.2.1), (x_10.2.2.1), (x_10.2.2.2.1), (x_10.2.2.2.2.1), (x_10.2.2.2.2.2.1), (x_10.2.2.2.2.2.2.1)) := by subst ex_10; subst ea_8; subst ea_7; subst ea_6; subst ea_5; subst ea_4; subst eL_3; subst eM_2; simp only [sp_X9_trials, if_neg c_1, if_neg c_12, if_neg c_13, if_neg c_14, if_neg c_15, if_pos c_16]
set_option maxRecDepth 100000 in
theorem sq_X9_trials_6 (M : Nat → Int32) (L : Int64) (a5 : Nat → Int32) (a6 : Nat → Int32) (a12 : Nat → Int32) (a32 : Nat → Int32) (a34 : Nat → Int32) (a35 : Nat → Int32) (what : Int32) (M_2 : Nat → Int32) (L_3 : Int64) (a_4 : Nat → Int32) (a_5 : Nat → Int32) (a_6 : Nat → Int32) (a_7 : Nat → Int32) (a_8 : Nat → Int32) (x_10 : (Nat → Int32) × Int64 × (Nat → Int32) × (Nat → Int32) × (Nat → Int32) × (Nat → Int32) × (Nat → Int32) × Int32 × Int32 × Int32 × Int32 × Int32) (eM_2 : M_2 = ((sp_X9_tries M L a5 a6 a12 a32 a34 a35 0 0 (M 33)).1)) (eL_3 : L_3 = ((sp_X9_tries M L a5 a6 a12 a32 a34 a35 0 0 (M 33)).2.1)) (ea_4 : a_4 = ((sp_X9_tries M L a5 a6 a12 a32 a34 a35 0 0 (M 33)).2.2.1)) (ea_5 : a_5 = ((sp_X9_tries M L a5 a6 a12 a32 a34 a35 0 0 (M 33)).2.2.2.1)) (ea_6 : a_6 = ((sp_X9_tries M L a5 a6 a12 a32 a34 a35 0 0 (M 33)).2.2.2.2.1)) (ea_7 : a_7 = ((sp_X9_tries M L a5 a6 a12 a32 a34 a35 0 0 (M 33)).2.2.2.2.2.1)) (ea_8 : a_8 = ((sp_X9_tries M L a5 a6 a12 a32 a34 a35 0 0 (M 33)).2.2.2.2.2.2)) (ex_10 : x_10 = lp (bd_X9_trials_47 a32 a_7) ((18 * (M 33)).toNatClampNeg) (M_2, L_3, a_4, a_5, a_6, a_7, a_8, 0, 0, (-9), 0, 0)) (c_1 : ¬ ((sp_X9_within what 0 5) = 0)) (c_12 : ¬ (what = 0)) (c_13 : ¬ (what = 1)) (c_14 : ¬ (what = 2)) (c_15 : ¬ (what = 3)) (c_16 : ¬ (what = 4)) : sp_X9_trials M L a5 a6 a12 a32 a34 a35 what = ((x_10.2.2.2.2.2.2.2.2.2.2.2), (x_10.1), (x_10.2.1), (x_10.2.2.1), (x_10.2.2.2.1), (x_10.2.2.2.2.1), (x_10.2.2.2.2.2.1), (x_10.2.2.2.2.2.2.1)) := by subst ex_10; subst ea_8; subst ea_7; subst ea_6; subst ea_5; subst ea_4; subst eL_3; subst eM_2; simp only [sp_X9_trials, if_neg c_1, if_neg c_12, if_neg c_13, if_neg c_14, if_neg c_15, if_neg c_16]
set_option maxHeartbeats 4000000 in
set_option maxRecDepth 100000 in
theorem c_X9_trials (l : Launch) (D : va_G) (cI cJ cO : ClassId) (h : Nat) (r : Nat → Nat) (M : Nat → Int32) (L : Int64) (a5 : Nat → Int32) (a6 : Nat → Int32) (a12 : Nat → Int32) (a32 : Nat → Int32) (a34 : Nat → Int32) (a35 : Nat → Int32) (what : Int32) (h0 : ¬ M 33 < 0) (h32 : (M 33).toNatClampNeg ≤ 32) (h18 : ¬ 18 * M 33 < 0) : MI l D (TY cI cJ cO) yX9_trials wsX9_trials (RM 4) [.ref h, .int what] [(h, oX9 r M L), ((r 5), .inl (cI, 9, .inl a5)), ((r 6), .inl (cI, 2, .inl a6)), ((r 12), .inl (cI, 3, .inl a12)), ((r 32), .inl (cI, 32, .inl a32)), ((r 34), .inl (cI, 5, .inl a34)), ((r 35), .inl (cI, 11, .inl a35))] ((sp_X9_trials M L a5 a6 a12 a32 a34 a35 what).1) [(h, oX9 r ((sp_X9_trials M L a5 a6 a12 a32 a34 a35 what).2.1) ((sp_X9_trials M L a5 a6 a12 a32 a34 a35 what).2.2.1)), ((r 5), .inl (cI, 9, .inl ((sp_X9_trials M L a5 a6 a12 a32 a34 a35 what).2.2.2.1))), ((r 6), .inl (cI, 2, .inl ((sp_X9_trials M L a5 a6 a12 a32 a34 a35 what).2.2.2.2.1))), ((r 12), .inl (cI, 3, .inl ((sp_X9_trials M L a5 a6 a12 a32 a34 a35 what).2.2.2.2.2.1))), ((r 32), .inl (cI, 32, .inl a32)), ((r 34), .inl (cI, 5, .inl ((sp_X9_trials M L a5 a6 a12 a32 a34 a35 what).2.2.2.2.2.2.1))), ((r 35), .inl (cI, 11, .inl ((sp_X9_trials M L a5 a6 a12 a32 a34 a35 what).2.2.2.2.2.2.2)))] := by
  refine k_entI (cc := cX9_trials) (maxL := 10) (lv := [(0, .ref h), (1, .int what)]) (by decide +kernel) rfl (Nat.le_of_ble_eq_true rfl) rfl ?_
  intro p e s m below meth c A Q ls hx hb hml hts hown hA hS hP hD hK hN hl hret
  have hown : s.vm.findClass RX9 = some m.cls := hown
  have hi9 : ∀ w ∈ wsX90, w ∈ wsX9_trials := fun w h => List.mem_cons_of_mem _ (List.mem_append_right _ h)
  have hf53 := hts (.fieldLink RX9 53 "PressGuardModel" "results" "[I") (by decide +kernel)
  have hf202 := hts (.fieldLink RX9 202 "PressGuardModel" "steps" "I") (by decide +kernel)
  refine lv_iload_n hx hb dX9_trials_0 rfl (lv_at hl 1 rfl) ?_
  refine lv_iconst (v := 0) hx hb dX9_trials_1 (by decide +kernel) ?_
  refine lv_iconst (v := 5) hx hb dX9_trials_2 (by decide +kernel) ?_
  refine k_Si ⟨hx, hb, hml, hown, hts⟩ (c_X9_within l D cI cJ cO what 0 5) (va_cwS 3 hts gX9_trials_X9_within rfl rfl rfl (by decide +kernel) ⟨Nat.le_of_ble_eq_true rfl, Nat.le_of_ble_eq_true rfl⟩) hK hN hP hD hS hA [] rfl rfl rfl (ws' := [(h, oX9 r M L), ((r 5), .inl (cI, 9, .inl a5)), ((r 6), .inl (cI, 2, .inl a6)), ((r 12), .inl (cI, 3, .inl a12)), ((r 32), .inl (cI, 32, .inl a32)), ((r 34), .inl (cI, 5, .inl a34)), ((r 35), .inl (cI, 11, .inl a35))]) rfl rfl hl.1 rfl (Nat.le_of_ble_eq_true rfl) dX9_trials_3 ⟨Nat.le_refl _, Nat.le_refl _⟩ (fun H locs hP hD hS => ?_)
  refine lv_if_ne (tgt := 12) hx hb dX9_trials_6 (by decide) (fun c_1 => ?_) (fun c_1 => ?_)
  · skip
    refine lv_aload_n hx hb dX9_trials_12 rfl (lv_at hl 0 rfl) ?_
    refine lv_iconst (v := 0) hx hb dX9_trials_13 (by decide +kernel) ?_
    refine lv_iconst (v := 0) hx hb dX9_trials_14 (by decide +kernel) ?_
    refine lv_aload_n hx hb dX9_trials_15 rfl (lv_at hl 0 rfl) ?_
    refine k_get hx hb hts hi9 hown hK hP 0 rfl rfl 33 (by decide) hf202 (.int (M 33)) rfl dX9_trials_16 ?_
    obtain ⟨M_2, eM_2⟩ : ∃ q : Nat → Int32, q = ((sp_X9_tries M L a5 a6 a12 a32 a34 a35 0 0 (M 33)).1) := ⟨_, rfl⟩
    obtain ⟨L_3, eL_3⟩ : ∃ q : Int64, q = ((sp_X9_tries M L a5 a6 a12 a32 a34 a35 0 0 (M 33)).2.1) := ⟨_, rfl⟩
    obtain ⟨a_4, ea_4⟩ : ∃ q : Nat → Int32, q = ((sp_X9_tries M L a5 a6 a12 a32 a34 a35 0 0 (M 33)).2.2.1) := ⟨_, rfl⟩
    obtain ⟨a_5, ea_5⟩ : ∃ q : Nat → Int32, q = ((sp_X9_tries M L a5 a6 a12 a32 a34 a35 0 0 (M 33)).2.2.2.1) := ⟨_, rfl⟩
    obtain ⟨a_6, ea_6⟩ : ∃ q : Nat → Int32, q = ((sp_X9_tries M L a5 a6 a12 a32 a34 a35 0 0 (M 33)).2.2.2.2.1) := ⟨_, rfl⟩
    obtain ⟨a_7, ea_7⟩ : ∃ q : Nat → Int32, q = ((sp_X9_tries M L a5 a6 a12 a32 a34 a35 0 0 (M 33)).2.2.2.2.2.1) := ⟨_, rfl⟩
    obtain ⟨a_8, ea_8⟩ : ∃ q : Nat → Int32, q = ((sp_X9_tries M L a5 a6 a12 a32 a34 a35 0 0 (M 33)).2.2.2.2.2.2) := ⟨_, rfl⟩
    refine k_Vv ⟨hx, hb, hml, hown, hts⟩ (c_X9_tries l D cI cJ cO h r M L a5 a6 a12 a32 a34 a35 0 0 (M 33) (vp_in_iff.mpr (by decide +kernel)) h0 h32) (ci := 9) (q0 := 0) rfl rfl (cwV 3 hts gX9_trials_X9_tries rfl rfl rfl (by decide +kernel) ⟨Nat.le_of_ble_eq_true rfl, Nat.le_of_ble_eq_true rfl⟩) hK hN hP hD hS hA [0, 1, 2, 3, 4, 5, 6] rfl rfl rfl (ws' := [(h, oX9 r M_2 L_3), ((r 5), .inl (cI, 9, .inl a_4)), ((r 6), .inl (cI, 2, .inl a_5)), ((r 12), .inl (cI, 3, .inl a_6)), ((r 32), .inl (cI, 32, .inl a32)), ((r 34), .inl (cI, 5, .inl a_7)), ((r 35), .inl (cI, 11, .inl a_8))]) (by rw [eM_2, eL_3, ea_4, ea_5, ea_6, ea_7, ea_8]; rfl) rfl hl.1 rfl (Nat.le_of_ble_eq_true rfl) dX9_trials_19 ⟨Nat.le_refl _, Nat.le_refl _⟩ (fun H locs hP hD hS => ?_)
    refine lv_aload_n hx hb dX9_trials_22 rfl (lv_at hl 0 rfl) ?_
    refine k_get hx hb hts hi9 hown hK hP 0 rfl rfl 34 (by decide) hf53 (.ref (r 34)) rfl dX9_trials_23 ?_
    refine lv_iconst (v := 4) hx hb dX9_trials_26 (by decide +kernel) ?_
    refine k_iald hx hb hK hP 5 0 rfl rfl 4 (by decide +kernel) (vp_in_iff.mpr (by decide +kernel)) dX9_trials_27 ?_
    refine lv_istore_n (lv' := [(2, .int (a_7 4)), (0, .ref h), (1, .int what)]) hx hb dX9_trials_28 rfl hl (by decide) rfl (fun ls hl => ?_)
    refine lv_iconst (v := 0) hx hb dX9_trials_29 (by decide +kernel) ?_
    refine lv_istore_n (lv' := [(3, .int 0), (2, .int (a_7 4)), (0, .ref h), (1, .int what)]) hx hb dX9_trials_30 rfl hl (by decide) rfl (fun ls hl => ?_)
    refine lv_iconst (v := 0) hx hb dX9_trials_31 (by decide +kernel) ?_
    refine lv_istore (lv' := [(4, .int 0), (3, .int 0), (2, .int (a_7 4)), (0, .ref h), (1, .int what)]) hx hb dX9_trials_32 hl (by decide) rfl (fun ls hl => ?_)
    refine lv_bipush (v := (-9)) hx hb dX9_trials_34 (by decide +kernel) ?_
    refine lv_istore (lv' := [(5, .int (-9)), (4, .int 0), (3, .int 0), (2, .int (a_7 4)), (0, .ref h), (1, .int what)]) hx hb dX9_trials_36 hl (by decide) rfl (fun ls hl => ?_)
    refine lv_iconst (v := 0) hx hb dX9_trials_38 (by decide +kernel) ?_
    refine lv_istore (lv' := [(6, .int 0), (5, .int (-9)), (4, .int 0), (3, .int 0), (2, .int (a_7 4)), (0, .ref h), (1, .int what)]) hx hb dX9_trials_39 hl (by decide) rfl (fun ls hl => ?_)
    refine lv_iconst (v := 0) hx hb dX9_trials_41 (by decide +kernel) ?_
    refine lv_istore (lv' := [(7, .int 0), (6, .int 0), (5, .int (-9)), (4, .int 0), (3, .int 0), (2, .int (a_7 4)), (0, .ref h), (1, .int what)]) hx hb dX9_trials_42 hl (by decide) rfl (fun ls hl => ?_)
    refine lv_iconst (v := 0) hx hb dX9_trials_44 (by decide +kernel) ?_
    refine lv_istore (lv' := [(8, .int 0), (7, .int 0), (6, .int 0), (5, .int (-9)), (4, .int 0), (3, .int 0), (2, .int (a_7 4)), (0, .ref h), (1, .int what)]) hx hb dX9_trials_45 hl (by decide) rfl (fun ls hl => ?_)
    obtain ⟨fx_10, hfx_10⟩ : ∃ f : Nat → (Nat → Int32) × Int64 × (Nat → Int32) × (Nat → Int32) × (Nat → Int32) × (Nat → Int32) × (Nat → Int32) × Int32 × Int32 × Int32 × Int32 × Int32 → (Nat → Int32) × Int64 × (Nat → Int32) × (Nat → Int32) × (Nat → Int32) × (Nat → Int32) × (Nat → Int32) × Int32 × Int32 × Int32 × Int32 × Int32, f = (bd_X9_trials_47 a32 a_7) := ⟨_, rfl⟩
    have hN_x_10 : (18 * (M 33)).toNatClampNeg < 2 ^ 31 := clamp_lt _
    have Lx_10 : ∀ (nn i_9 : Nat) (x_10 : (Nat → Int32) × Int64 × (Nat → Int32) × (Nat → Int32) × (Nat → Int32) × (Nat → Int32) × (Nat → Int32) × Int32 × Int32 × Int32 × Int32 × Int32), (18 * (M 33)).toNatClampNeg + 1 ≤ i_9 + nn → i_9 ≤ (18 * (M 33)).toNatClampNeg → x_10 = lp fx_10 i_9 (M_2, L_3, a_4, a_5, a_6, a_7, a_8, 0, 0, (-9), 0, 0) → (x_10.1) 33 = M 33 → ∀ (H : Heap) (locs : List Loc), va_P D vwCl [(h, oX9 r (x_10.1) (x_10.2.1)), ((r 5), .inl (cI, 9, .inl (x_10.2.2.1))), ((r 6), .inl (cI, 2, .inl (x_10.2.2.2.1))), ((r 12), .inl (cI, 3, .inl (x_10.2.2.2.2.1))), ((r 32), .inl (cI, 32, .inl a32)), ((r 34), .inl (cI, 5, .inl (x_10.2.2.2.2.2.1))), ((r 35), .inl (cI, 11, .inl (x_10.2.2.2.2.2.2.1)))] H → va_D A [(h, oX9 r (x_10.1) (x_10.2.1)), ((r 5), .inl (cI, 9, .inl (x_10.2.2.1))), ((r 6), .inl (cI, 2, .inl (x_10.2.2.2.1))), ((r 12), .inl (cI, 3, .inl (x_10.2.2.2.2.1))), ((r 32), .inl (cI, 32, .inl a32)), ((r 34), .inl (cI, 5, .inl (x_10.2.2.2.2.2.1))), ((r 35), .inl (cI, 11, .inl (x_10.2.2.2.2.2.2.1)))] → va_S A s.heap H locs → ∀ ls : Array Slot, lv_has ls 10 [(0, .ref h), (1, .int what), (2, .int (a_7 4)), (3, .int (x_10.2.2.2.2.2.2.2.1)), (4, .int (x_10.2.2.2.2.2.2.2.2.1)), (5, .int (x_10.2.2.2.2.2.2.2.2.2.1)), (6, .int (x_10.2.2.2.2.2.2.2.2.2.2.1)), (7, .int (x_10.2.2.2.2.2.2.2.2.2.2.2)), (8, .int (nI i_9))] → W p l e (RM 4) s m ([.ref h, .int what] : List Value).toArray below meth c H locs 0 0 Q (F0 m 47 ls []) := by
      intro nn_x_10
      induction nn_x_10 with
      | zero => intro i_9 x_10 h1 h2; exact absurd h1 (by omega)
      | succ nn_x_10 ih_x_10 =>
        intro i_9 x_10 hn_x_10 hi_i_9 ex_x_10 hv_x_10 H locs hP hD hS ls hl
        have hB_x_10 : ((18 * ((x_10.1) 33)) : Int32) = nI ((18 * (M 33)).toNatClampNeg) := by rw [hv_x_10]; exact nI_self h18
        refine lv_iload hx hb dX9_trials_47 (lv_at hl 8 rfl) ?_
        refine lv_bipush (v := 18) hx hb dX9_trials_49 (by decide +kernel) ?_
        refine lv_aload_n hx hb dX9_trials_51 rfl (lv_at hl 0 rfl) ?_
        refine k_get hx hb hts hi9 hown hK hP 0 rfl rfl 33 (by decide) hf202 (.int ((x_10.1) 33)) rfl dX9_trials_52 ?_
        refine lv_imul hx hb dX9_trials_55 ?_
        refine lv_icmp_ge (tgt := 212) hx hb dX9_trials_56 (by decide) (fun c_11 => ?_) (fun c_11 => ?_)
        · skip
          have hq_x_10 : i_9 = (18 * (M 33)).toNatClampNeg := k_eq hB_x_10 c_11 hi_i_9 hN_x_10
          have ex_10 : x_10 = lp (bd_X9_trials_47 a32 a_7) ((18 * (M 33)).toNatClampNeg) (M_2, L_3, a_4, a_5, a_6, a_7, a_8, 0, 0, (-9), 0, 0) := by rw [ex_x_10, hfx_10, hq_x_10]
          refine lv_iload_n hx hb dX9_trials_212 rfl (lv_at hl 1 rfl) ?_
          by_cases c_12 : what = 0
          · refine lv_tableIn (off := 35) (tgt := 248) hx hb dX9_trials_213 (by rw [c_12]; decide) (by rw [c_12]; decide) (by rw [c_12]; rfl) (by decide) ?_
            refine lv_bipush (v := 18) hx hb dX9_trials_248 (by decide +kernel) ?_
            refine lv_aload_n hx hb dX9_trials_250 rfl (lv_at hl 0 rfl) ?_
            refine k_get hx hb hts hi9 hown hK hP 0 rfl rfl 33 (by decide) hf202 (.int ((x_10.1) 33)) rfl dX9_trials_251 ?_
            refine lv_imul hx hb dX9_trials_254 ?_
            have hsp : sp_X9_trials M L a5 a6 a12 a32 a34 a35 what = ((18 * ((x_10.1) 33)), (x_10.1), (x_10.2.1), (x_10.2.2.1), (x_10.2.2.2.1), (x_10.2.2.2.2.1), (x_10.2.2.2.2.2.1), (x_10.2.2.2.2.2.2.1)) := sq_X9_trials_1 M L a5 a6 a12 a32 a34 a35 what M_2 L_3 a_4 a_5 a_6 a_7 a_8 x_10 eM_2 eL_3 ea_4 ea_5 ea_6 ea_7 ea_8 ex_10 c_1 c_12
            exact hret _ _ _ _ _ (by rw [hsp]) rfl (by rw [hsp]; exact hP) hS dX9_trials_255
          by_cases c_13 : what = 1
          · refine lv_tableIn (off := 43) (tgt := 256) hx hb dX9_trials_213 (by rw [c_13]; decide) (by rw [c_13]; decide) (by rw [c_13]; rfl) (by decide) ?_
            refine lv_iload_n hx hb dX9_trials_256 rfl (lv_at hl 3 rfl) ?_
            have hsp : sp_X9_trials M L a5 a6 a12 a32 a34 a35 what = ((x_10.2.2.2.2.2.2.2.1), (x_10.1), (x_10.2.1), (x_10.2.2.1), (x_10.2.2.2.1), (x_10.2.2.2.2.1), (x_10.2.2.2.2.2.1), (x_10.2.2.2.2.2.2.1)) := sq_X9_trials_2 M L a5 a6 a12 a32 a34 a35 what M_2 L_3 a_4 a_5 a_6 a_7 a_8 x_10 eM_2 eL_3 ea_4 ea_5 ea_6 ea_7 ea_8 ex_10 c_1 c_12 c_13
            exact hret _ _ _ _ _ (by rw [hsp]) rfl (by rw [hsp]; exact hP) hS dX9_trials_257
          by_cases c_14 : what = 2
          · refine lv_tableIn (off := 45) (tgt := 258) hx hb dX9_trials_213 (by rw [c_14]; decide) (by rw [c_14]; decide) (by rw [c_14]; rfl) (by decide) ?_
            refine lv_iload hx hb dX9_trials_258 (lv_at hl 4 rfl) ?_
            have hsp : sp_X9_trials M L a5 a6 a12 a32 a34 a35 what = ((x_10.2.2.2.2.2.2.2.2.1), (x_10.1), (x_10.2.1), (x_10.2.2.1), (x_10.2.2.2.1), (x_10.2.2.2.2.1), (x_10.2.2.2.2.2.1), (x_10.2.2.2.2.2.2.1)) := sq_X9_trials_3 M L a5 a6 a12 a32 a34 a35 what M_2 L_3 a_4 a_5 a_6 a_7 a_8 x_10 eM_2 eL_3 ea_4 ea_5 ea_6 ea_7 ea_8 ex_10 c_1 c_12 c_13 c_14
            exact hret _ _ _ _ _ (by rw [hsp]) rfl (by rw [hsp]; exact hP) hS dX9_trials_260
          by_cases c_15 : what = 3
          · refine lv_tableIn (off := 48) (tgt := 261) hx hb dX9_trials_213 (by rw [c_15]; decide) (by rw [c_15]; decide) (by rw [c_15]; rfl) (by decide) ?_
            refine lv_iload hx hb dX9_trials_261 (lv_at hl 5 rfl) ?_
            have hsp : sp_X9_trials M L a5 a6 a12 a32 a34 a35 what = ((x_10.2.2.2.2.2.2.2.2.2.1), (x_10.1), (x_10.2.1), (x_10.2.2.1), (x_10.2.2.2.1), (x_10.2.2.2.2.1), (x_10.2.2.2.2.2.1), (x_10.2.2.2.2.2.2.1)) := sq_X9_trials_4 M L a5 a6 a12 a32 a34 a35 what M_2 L_3 a_4 a_5 a_6 a_7 a_8 x_10 eM_2 eL_3 ea_4 ea_5 ea_6 ea_7 ea_8 ex_10 c_1 c_12 c_13 c_14 c_15
            exact hret _ _ _ _ _ (by rw [hsp]) rfl (by rw [hsp]; exact hP) hS dX9_trials_263
          by_cases c_16 : what = 4
          · refine lv_tableIn (off := 51) (tgt := 264) hx hb dX9_trials_213 (by rw [c_16]; decide) (by rw [c_16]; decide) (by rw [c_16]; rfl) (by decide) ?_
            refine lv_iload hx hb dX9_trials_264 (lv_at hl 6 rfl) ?_
            have hsp : sp_X9_trials M L a5 a6 a12 a32 a34 a35 what = ((x_10.2.2.2.2.2.2.2.2.2.2.1), (x_10.1), (x_10.2.1), (x_10.2.2.1), (x_10.2.2.2.1), (x_10.2.2.2.2.1), (x_10.2.2.2.2.2.1), (x_10.2.2.2.2.2.2.1)) := sq_X9_trials_5 M L a5 a6 a12 a32 a34 a35 what M_2 L_3 a_4 a_5 a_6 a_7 a_8 x_10 eM_2 eL_3 ea_4 ea_5 ea_6 ea_7 ea_8 ex_10 c_1 c_12 c_13 c_14 c_15 c_16
            exact hret _ _ _ _ _ (by rw [hsp]) rfl (by rw [hsp]; exact hP) hS dX9_trials_266
          refine lv_tableOut (tgt := 267) hx hb dX9_trials_213 (by have q0 := lv_neT c_12 (show (0 : Int32).toInt = 0 by decide +kernel); have q1 := lv_neT c_13 (show (1 : Int32).toInt = 1 by decide +kernel); have q2 := lv_neT c_14 (show (2 : Int32).toInt = 2 by decide +kernel); have q3 := lv_neT c_15 (show (3 : Int32).toInt = 3 by decide +kernel); have q4 := lv_neT c_16 (show (4 : Int32).toInt = 4 by decide +kernel); omega) (by decide) ?_
          refine lv_iload hx hb dX9_trials_267 (lv_at hl 7 rfl) ?_
          have hsp : sp_X9_trials M L a5 a6 a12 a32 a34 a35 what = ((x_10.2.2.2.2.2.2.2.2.2.2.2), (x_10.1), (x_10.2.1), (x_10.2.2.1), (x_10.2.2.2.1), (x_10.2.2.2.2.1), (x_10.2.2.2.2.2.1), (x_10.2.2.2.2.2.2.1)) := sq_X9_trials_6 M L a5 a6 a12 a32 a34 a35 what M_2 L_3 a_4 a_5 a_6 a_7 a_8 x_10 eM_2 eL_3 ea_4 ea_5 ea_6 ea_7 ea_8 ex_10 c_1 c_12 c_13 c_14 c_15 c_16
          exact hret _ _ _ _ _ (by rw [hsp]) rfl (by rw [hsp]; exact hP) hS dX9_trials_269
        · skip
          have hlt_i_9 : i_9 < (18 * (M 33)).toNatClampNeg := k_lt hB_x_10 c_11 hi_i_9 hN_x_10
          refine lv_iload hx hb dX9_trials_59 (lv_at hl 8 rfl) ?_
          refine lv_bipush (v := 18) hx hb dX9_trials_61 (by decide +kernel) ?_
          refine lv_idiv hx hb dX9_trials_63 (by decide +kernel) ?_
          refine lv_istore (lv' := [(9, .int ((nI i_9) / 18)), (0, .ref h), (1, .int what), (2, .int (a_7 4)), (3, .int (x_10.2.2.2.2.2.2.2.1)), (4, .int (x_10.2.2.2.2.2.2.2.2.1)), (5, .int (x_10.2.2.2.2.2.2.2.2.2.1)), (6, .int (x_10.2.2.2.2.2.2.2.2.2.2.1)), (7, .int (x_10.2.2.2.2.2.2.2.2.2.2.2)), (8, .int (nI i_9))]) hx hb dX9_trials_64 hl (by decide) rfl (fun ls hl => ?_)
          refine lv_aload_n hx hb dX9_trials_66 rfl (lv_at hl 1 rfl) ?_
          refine lv_iload hx hb dX9_trials_67 (lv_at hl 9 rfl) ?_
          refine lv_iconst (v := 2) hx hb dX9_trials_69 (by decide +kernel) ?_
          refine lv_idiv hx hb dX9_trials_70 (by decide +kernel) ?_
          refine lv_bipush (v := 9) hx hb dX9_trials_71 (by decide +kernel) ?_
          refine lv_irem hx hb dX9_trials_73 (by decide +kernel) ?_
          refine lv_iload hx hb dX9_trials_74 (lv_at hl 9 rfl) ?_
          refine lv_iconst (v := 2) hx hb dX9_trials_76 (by decide +kernel) ?_
          refine lv_irem hx hb dX9_trials_77 (by decide +kernel) ?_
          refine lv_iload hx hb dX9_trials_78 (lv_at hl 0 rfl) ?_
          obtain ⟨M_17, eM_17⟩ : ∃ q : Nat → Int32, q = ((sp_X9_tries (x_10.1) (x_10.2.1) (x_10.2.2.1) (x_10.2.2.2.1) (x_10.2.2.2.2.1) a32 (x_10.2.2.2.2.2.1) (x_10.2.2.2.2.2.2.1) (((nI i_9) / 2) - ((nI i_9) / 2) / 9 * 9) ((nI i_9) - (nI i_9) / 2 * 2) ((nI i_9) / 18)).1) := ⟨_, rfl⟩
          obtain ⟨L_18, eL_18⟩ : ∃ q : Int64, q = ((sp_X9_tries (x_10.1) (x_10.2.1) (x_10.2.2.1) (x_10.2.2.2.1) (x_10.2.2.2.2.1) a32 (x_10.2.2.2.2.2.1) (x_10.2.2.2.2.2.2.1) (((nI i_9) / 2) - ((nI i_9) / 2) / 9 * 9) ((nI i_9) - (nI i_9) / 2 * 2) ((nI i_9) / 18)).2.1) := ⟨_, rfl⟩
          obtain ⟨a_19, ea_19⟩ : ∃ q : Nat → Int32, q = ((sp_X9_tries (x_10.1) (x_10.2.1) (x_10.2.2.1) (x_10.2.2.2.1) (x_10.2.2.2.2.1) a32 (x_10.2.2.2.2.2.1) (x_10.2.2.2.2.2.2.1) (((nI i_9) / 2) - ((nI i_9) / 2) / 9 * 9) ((nI i_9) - (nI i_9) / 2 * 2) ((nI i_9) / 18)).2.2.1) := ⟨_, rfl⟩
          obtain ⟨a_20, ea_20⟩ : ∃ q : Nat → Int32, q = ((sp_X9_tries (x_10.1) (x_10.2.1) (x_10.2.2.1) (x_10.2.2.2.1) (x_10.2.2.2.2.1) a32 (x_10.2.2.2.2.2.1) (x_10.2.2.2.2.2.2.1) (((nI i_9) / 2) - ((nI i_9) / 2) / 9 * 9) ((nI i_9) - (nI i_9) / 2 * 2) ((nI i_9) / 18)).2.2.2.1) := ⟨_, rfl⟩
          obtain ⟨a_21, ea_21⟩ : ∃ q : Nat → Int32, q = ((sp_X9_tries (x_10.1) (x_10.2.1) (x_10.2.2.1) (x_10.2.2.2.1) (x_10.2.2.2.2.1) a32 (x_10.2.2.2.2.2.1) (x_10.2.2.2.2.2.2.1) (((nI i_9) / 2) - ((nI i_9) / 2) / 9 * 9) ((nI i_9) - (nI i_9) / 2 * 2) ((nI i_9) / 18)).2.2.2.2.1) := ⟨_, rfl⟩
          obtain ⟨a_22, ea_22⟩ : ∃ q : Nat → Int32, q = ((sp_X9_tries (x_10.1) (x_10.2.1) (x_10.2.2.1) (x_10.2.2.2.1) (x_10.2.2.2.2.1) a32 (x_10.2.2.2.2.2.1) (x_10.2.2.2.2.2.2.1) (((nI i_9) / 2) - ((nI i_9) / 2) / 9 * 9) ((nI i_9) - (nI i_9) / 2 * 2) ((nI i_9) / 18)).2.2.2.2.2.1) := ⟨_, rfl⟩
          obtain ⟨a_23, ea_23⟩ : ∃ q : Nat → Int32, q = ((sp_X9_tries (x_10.1) (x_10.2.1) (x_10.2.2.1) (x_10.2.2.2.1) (x_10.2.2.2.2.1) a32 (x_10.2.2.2.2.2.1) (x_10.2.2.2.2.2.2.1) (((nI i_9) / 2) - ((nI i_9) / 2) / 9 * 9) ((nI i_9) - (nI i_9) / 2 * 2) ((nI i_9) / 18)).2.2.2.2.2.2) := ⟨_, rfl⟩
          refine k_Vv ⟨hx, hb, hml, hown, hts⟩ (c_X9_tries l D cI cJ cO h r (x_10.1) (x_10.2.1) (x_10.2.2.1) (x_10.2.2.2.1) (x_10.2.2.2.2.1) a32 (x_10.2.2.2.2.2.1) (x_10.2.2.2.2.2.2.1) (((nI i_9) / 2) - ((nI i_9) / 2) / 9 * 9) ((nI i_9) - (nI i_9) / 2 * 2) ((nI i_9) / 18) (rem_in (by omega)) (by rw [hv_x_10]; exact h0) (by rw [hv_x_10]; exact h32)) (ci := 9) (q0 := 0) rfl rfl (cwV 3 hts gX9_trials_X9_tries rfl rfl rfl (by decide +kernel) ⟨Nat.le_of_ble_eq_true rfl, Nat.le_of_ble_eq_true rfl⟩) hK hN hP hD hS hA [0, 1, 2, 3, 4, 5, 6] rfl rfl rfl (ws' := [(h, oX9 r M_17 L_18), ((r 5), .inl (cI, 9, .inl a_19)), ((r 6), .inl (cI, 2, .inl a_20)), ((r 12), .inl (cI, 3, .inl a_21)), ((r 32), .inl (cI, 32, .inl a32)), ((r 34), .inl (cI, 5, .inl a_22)), ((r 35), .inl (cI, 11, .inl a_23))]) (by rw [eM_17, eL_18, ea_19, ea_20, ea_21, ea_22, ea_23]; rfl) rfl hl.1 rfl (Nat.le_of_ble_eq_true rfl) dX9_trials_80 ⟨Nat.le_refl _, Nat.le_refl _⟩ (fun H locs hP hD hS => ?_)
          refine lv_iload_n hx hb dX9_trials_83 rfl (lv_at hl 4 rfl) ?_
          refine lv_aload_n hx hb dX9_trials_84 rfl (lv_at hl 1 rfl) ?_
          refine k_get hx hb hts hi9 hown hK hP 0 rfl rfl 34 (by decide) hf53 (.ref (r 34)) rfl dX9_trials_85 ?_
          refine lv_iconst (v := 0) hx hb dX9_trials_88 (by decide +kernel) ?_
          refine k_iald hx hb hK hP 5 0 rfl rfl 0 (by decide +kernel) (vp_in_iff.mpr (by decide +kernel)) dX9_trials_89 ?_
          have J_25 : ∀ z_24 : Int32, z_24 = (if (a_22 0) ≤ 0 then 0 else 1) → ∀ (H : Heap) (locs : List Loc), va_P D vwCl [(h, oX9 r M_17 L_18), ((r 5), .inl (cI, 9, .inl a_19)), ((r 6), .inl (cI, 2, .inl a_20)), ((r 12), .inl (cI, 3, .inl a_21)), ((r 32), .inl (cI, 32, .inl a32)), ((r 34), .inl (cI, 5, .inl a_22)), ((r 35), .inl (cI, 11, .inl a_23))] H → va_D A [(h, oX9 r M_17 L_18), ((r 5), .inl (cI, 9, .inl a_19)), ((r 6), .inl (cI, 2, .inl a_20)), ((r 12), .inl (cI, 3, .inl a_21)), ((r 32), .inl (cI, 32, .inl a32)), ((r 34), .inl (cI, 5, .inl a_22)), ((r 35), .inl (cI, 11, .inl a_23))] → va_S A s.heap H locs → ∀ ls : Array Slot, lv_has ls 10 [(0, .ref h), (1, .int what), (2, .int (a_7 4)), (4, .int (x_10.2.2.2.2.2.2.2.2.1)), (5, .int (x_10.2.2.2.2.2.2.2.2.2.1)), (6, .int (x_10.2.2.2.2.2.2.2.2.2.2.1)), (7, .int (x_10.2.2.2.2.2.2.2.2.2.2.2)), (8, .int (nI i_9)), (9, .int ((nI i_9) / 18))] → W p l e (RM 4) s m ([.ref h, .int what] : List Value).toArray below meth c H locs 0 0 Q (F0 m 98 ls [.int z_24, .int (x_10.2.2.2.2.2.2.2.1)]) := by
            intro z_24 ez_24 H locs hP hD hS ls hl
            refine lv_iadd hx hb dX9_trials_98 ?_
            refine lv_istore_n (lv' := [(3, .int ((x_10.2.2.2.2.2.2.2.1) + z_24)), (0, .ref h), (1, .int what), (2, .int (a_7 4)), (4, .int (x_10.2.2.2.2.2.2.2.2.1)), (5, .int (x_10.2.2.2.2.2.2.2.2.2.1)), (6, .int (x_10.2.2.2.2.2.2.2.2.2.2.1)), (7, .int (x_10.2.2.2.2.2.2.2.2.2.2.2)), (8, .int (nI i_9)), (9, .int ((nI i_9) / 18))]) hx hb dX9_trials_99 rfl hl (by decide) rfl (fun ls hl => ?_)
            refine lv_iload hx hb dX9_trials_100 (lv_at hl 4 rfl) ?_
            refine lv_aload_n hx hb dX9_trials_102 rfl (lv_at hl 1 rfl) ?_
            refine k_get hx hb hts hi9 hown hK hP 0 rfl rfl 34 (by decide) hf53 (.ref (r 34)) rfl dX9_trials_103 ?_
            refine lv_iconst (v := 1) hx hb dX9_trials_106 (by decide +kernel) ?_
            refine k_iald hx hb hK hP 5 0 rfl rfl 1 (by decide +kernel) (vp_in_iff.mpr (by decide +kernel)) dX9_trials_107 ?_
            refine lv_bipush (v := (-9)) hx hb dX9_trials_108 (by decide +kernel) ?_
            have J_27 : ∀ z_26 : Int32, z_26 = (if (a_22 1) = (-9) then 0 else 1) → ∀ (H : Heap) (locs : List Loc), va_P D vwCl [(h, oX9 r M_17 L_18), ((r 5), .inl (cI, 9, .inl a_19)), ((r 6), .inl (cI, 2, .inl a_20)), ((r 12), .inl (cI, 3, .inl a_21)), ((r 32), .inl (cI, 32, .inl a32)), ((r 34), .inl (cI, 5, .inl a_22)), ((r 35), .inl (cI, 11, .inl a_23))] H → va_D A [(h, oX9 r M_17 L_18), ((r 5), .inl (cI, 9, .inl a_19)), ((r 6), .inl (cI, 2, .inl a_20)), ((r 12), .inl (cI, 3, .inl a_21)), ((r 32), .inl (cI, 32, .inl a32)), ((r 34), .inl (cI, 5, .inl a_22)), ((r 35), .inl (cI, 11, .inl a_23))] → va_S A s.heap H locs → ∀ ls : Array Slot, lv_has ls 10 [(0, .ref h), (1, .int what), (2, .int (a_7 4)), (3, .int ((x_10.2.2.2.2.2.2.2.1) + z_24)), (5, .int (x_10.2.2.2.2.2.2.2.2.2.1)), (6, .int (x_10.2.2.2.2.2.2.2.2.2.2.1)), (7, .int (x_10.2.2.2.2.2.2.2.2.2.2.2)), (8, .int (nI i_9)), (9, .int ((nI i_9) / 18))] → W p l e (RM 4) s m ([.ref h, .int what] : List Value).toArray below meth c H locs 0 0 Q (F0 m 118 ls [.int z_26, .int (x_10.2.2.2.2.2.2.2.2.1)]) := by
              intro z_26 ez_26 H locs hP hD hS ls hl
              refine lv_iadd hx hb dX9_trials_118 ?_
              refine lv_istore (lv' := [(4, .int ((x_10.2.2.2.2.2.2.2.2.1) + z_26)), (0, .ref h), (1, .int what), (2, .int (a_7 4)), (3, .int ((x_10.2.2.2.2.2.2.2.1) + z_24)), (5, .int (x_10.2.2.2.2.2.2.2.2.2.1)), (6, .int (x_10.2.2.2.2.2.2.2.2.2.2.1)), (7, .int (x_10.2.2.2.2.2.2.2.2.2.2.2)), (8, .int (nI i_9)), (9, .int ((nI i_9) / 18))]) hx hb dX9_trials_119 hl (by decide) rfl (fun ls hl => ?_)
              refine lv_aload_n hx hb dX9_trials_121 rfl (lv_at hl 1 rfl) ?_
              refine k_get hx hb hts hi9 hown hK hP 0 rfl rfl 34 (by decide) hf53 (.ref (r 34)) rfl dX9_trials_122 ?_
              refine lv_iconst (v := 1) hx hb dX9_trials_125 (by decide +kernel) ?_
              refine k_iald hx hb hK hP 5 0 rfl rfl 1 (by decide +kernel) (vp_in_iff.mpr (by decide +kernel)) dX9_trials_126 ?_
              refine lv_iload hx hb dX9_trials_127 (lv_at hl 9 rfl) ?_
              have J_29 : ∀ z_28 : Int32, z_28 = (if (a_22 1) ≤ ((nI i_9) / 18) then (x_10.2.2.2.2.2.2.2.2.2.1) else (if ((a_22 1) - ((nI i_9) / 18)) ≤ (x_10.2.2.2.2.2.2.2.2.2.1) then (x_10.2.2.2.2.2.2.2.2.2.1) else ((a_22 1) - ((nI i_9) / 18)))) → ∀ (H : Heap) (locs : List Loc), va_P D vwCl [(h, oX9 r M_17 L_18), ((r 5), .inl (cI, 9, .inl a_19)), ((r 6), .inl (cI, 2, .inl a_20)), ((r 12), .inl (cI, 3, .inl a_21)), ((r 32), .inl (cI, 32, .inl a32)), ((r 34), .inl (cI, 5, .inl a_22)), ((r 35), .inl (cI, 11, .inl a_23))] H → va_D A [(h, oX9 r M_17 L_18), ((r 5), .inl (cI, 9, .inl a_19)), ((r 6), .inl (cI, 2, .inl a_20)), ((r 12), .inl (cI, 3, .inl a_21)), ((r 32), .inl (cI, 32, .inl a32)), ((r 34), .inl (cI, 5, .inl a_22)), ((r 35), .inl (cI, 11, .inl a_23))] → va_S A s.heap H locs → ∀ ls : Array Slot, lv_has ls 10 [(0, .ref h), (1, .int what), (2, .int (a_7 4)), (3, .int ((x_10.2.2.2.2.2.2.2.1) + z_24)), (4, .int ((x_10.2.2.2.2.2.2.2.2.1) + z_26)), (6, .int (x_10.2.2.2.2.2.2.2.2.2.2.1)), (7, .int (x_10.2.2.2.2.2.2.2.2.2.2.2)), (8, .int (nI i_9))] → W p l e (RM 4) s m ([.ref h, .int what] : List Value).toArray below meth c H locs 0 0 Q (F0 m 160 ls [.int z_28]) := by
                intro z_28 ez_28 H locs hP hD hS ls hl
                refine lv_istore (lv' := [(5, .int z_28), (0, .ref h), (1, .int what), (2, .int (a_7 4)), (3, .int ((x_10.2.2.2.2.2.2.2.1) + z_24)), (4, .int ((x_10.2.2.2.2.2.2.2.2.1) + z_26)), (6, .int (x_10.2.2.2.2.2.2.2.2.2.2.1)), (7, .int (x_10.2.2.2.2.2.2.2.2.2.2.2)), (8, .int (nI i_9))]) hx hb dX9_trials_160 hl (by decide) rfl (fun ls hl => ?_)
                refine lv_aload_n hx hb dX9_trials_162 rfl (lv_at hl 1 rfl) ?_
                refine k_get hx hb hts hi9 hown hK hP 0 rfl rfl 34 (by decide) hf53 (.ref (r 34)) rfl dX9_trials_163 ?_
                refine lv_iconst (v := 0) hx hb dX9_trials_166 (by decide +kernel) ?_
                refine k_iald hx hb hK hP 5 0 rfl rfl 0 (by decide +kernel) (vp_in_iff.mpr (by decide +kernel)) dX9_trials_167 ?_
                refine lv_iload hx hb dX9_trials_168 (lv_at hl 6 rfl) ?_
                have J_31 : ∀ z_30 : Int32, z_30 = (if (a_22 0) ≤ (x_10.2.2.2.2.2.2.2.2.2.2.1) then (x_10.2.2.2.2.2.2.2.2.2.2.1) else (a_22 0)) → ∀ (H : Heap) (locs : List Loc), va_P D vwCl [(h, oX9 r M_17 L_18), ((r 5), .inl (cI, 9, .inl a_19)), ((r 6), .inl (cI, 2, .inl a_20)), ((r 12), .inl (cI, 3, .inl a_21)), ((r 32), .inl (cI, 32, .inl a32)), ((r 34), .inl (cI, 5, .inl a_22)), ((r 35), .inl (cI, 11, .inl a_23))] H → va_D A [(h, oX9 r M_17 L_18), ((r 5), .inl (cI, 9, .inl a_19)), ((r 6), .inl (cI, 2, .inl a_20)), ((r 12), .inl (cI, 3, .inl a_21)), ((r 32), .inl (cI, 32, .inl a32)), ((r 34), .inl (cI, 5, .inl a_22)), ((r 35), .inl (cI, 11, .inl a_23))] → va_S A s.heap H locs → ∀ ls : Array Slot, lv_has ls 10 [(0, .ref h), (1, .int what), (2, .int (a_7 4)), (3, .int ((x_10.2.2.2.2.2.2.2.1) + z_24)), (4, .int ((x_10.2.2.2.2.2.2.2.2.1) + z_26)), (5, .int z_28), (7, .int (x_10.2.2.2.2.2.2.2.2.2.2.2)), (8, .int (nI i_9))] → W p l e (RM 4) s m ([.ref h, .int what] : List Value).toArray below meth c H locs 0 0 Q (F0 m 184 ls [.int z_30]) := by
                  intro z_30 ez_30 H locs hP hD hS ls hl
                  refine lv_istore (lv' := [(6, .int z_30), (0, .ref h), (1, .int what), (2, .int (a_7 4)), (3, .int ((x_10.2.2.2.2.2.2.2.1) + z_24)), (4, .int ((x_10.2.2.2.2.2.2.2.2.1) + z_26)), (5, .int z_28), (7, .int (x_10.2.2.2.2.2.2.2.2.2.2.2)), (8, .int (nI i_9))]) hx hb dX9_trials_184 hl (by decide) rfl (fun ls hl => ?_)
                  refine lv_iload hx hb dX9_trials_186 (lv_at hl 7 rfl) ?_
                  refine lv_aload_n hx hb dX9_trials_188 rfl (lv_at hl 1 rfl) ?_
                  refine k_get hx hb hts hi9 hown hK hP 0 rfl rfl 34 (by decide) hf53 (.ref (r 34)) rfl dX9_trials_189 ?_
                  refine lv_iconst (v := 4) hx hb dX9_trials_192 (by decide +kernel) ?_
                  refine k_iald hx hb hK hP 5 0 rfl rfl 4 (by decide +kernel) (vp_in_iff.mpr (by decide +kernel)) dX9_trials_193 ?_
                  refine lv_iload_n hx hb dX9_trials_194 rfl (lv_at hl 3 rfl) ?_
                  have J_33 : ∀ z_32 : Int32, z_32 = (if (a_7 4) ≤ (a_22 4) then 0 else 1) → ∀ (H : Heap) (locs : List Loc), va_P D vwCl [(h, oX9 r M_17 L_18), ((r 5), .inl (cI, 9, .inl a_19)), ((r 6), .inl (cI, 2, .inl a_20)), ((r 12), .inl (cI, 3, .inl a_21)), ((r 32), .inl (cI, 32, .inl a32)), ((r 34), .inl (cI, 5, .inl a_22)), ((r 35), .inl (cI, 11, .inl a_23))] H → va_D A [(h, oX9 r M_17 L_18), ((r 5), .inl (cI, 9, .inl a_19)), ((r 6), .inl (cI, 2, .inl a_20)), ((r 12), .inl (cI, 3, .inl a_21)), ((r 32), .inl (cI, 32, .inl a32)), ((r 34), .inl (cI, 5, .inl a_22)), ((r 35), .inl (cI, 11, .inl a_23))] → va_S A s.heap H locs → ∀ ls : Array Slot, lv_has ls 10 [(0, .ref h), (1, .int what), (2, .int (a_7 4)), (3, .int ((x_10.2.2.2.2.2.2.2.1) + z_24)), (4, .int ((x_10.2.2.2.2.2.2.2.2.1) + z_26)), (5, .int z_28), (6, .int z_30), (8, .int (nI i_9))] → W p l e (RM 4) s m ([.ref h, .int what] : List Value).toArray below meth c H locs 0 0 Q (F0 m 203 ls [.int z_32, .int (x_10.2.2.2.2.2.2.2.2.2.2.2)]) := by
                    intro z_32 ez_32 H locs hP hD hS ls hl
                    refine lv_iadd hx hb dX9_trials_203 ?_
                    refine lv_istore (lv' := [(7, .int ((x_10.2.2.2.2.2.2.2.2.2.2.2) + z_32)), (0, .ref h), (1, .int what), (2, .int (a_7 4)), (3, .int ((x_10.2.2.2.2.2.2.2.1) + z_24)), (4, .int ((x_10.2.2.2.2.2.2.2.2.1) + z_26)), (5, .int z_28), (6, .int z_30), (8, .int (nI i_9))]) hx hb dX9_trials_204 hl (by decide) rfl (fun ls hl => ?_)
                    refine lv_iinc (v := (nI (i_9 + 1))) (lv' := [(8, .int (nI (i_9 + 1))), (7, .int ((x_10.2.2.2.2.2.2.2.2.2.2.2) + z_32)), (0, .ref h), (1, .int what), (2, .int (a_7 4)), (3, .int ((x_10.2.2.2.2.2.2.2.1) + z_24)), (4, .int ((x_10.2.2.2.2.2.2.2.2.1) + z_26)), (5, .int z_28), (6, .int z_30)]) hx hb dX9_trials_206 hl (k := 8) rfl (nI_1 i_9) (by decide) rfl (fun ls hl => ?_)
                    refine lv_goto (tgt := 47) hx hb dX9_trials_209 (by decide) ?_
                    exact ih_x_10 (i_9 + 1) (M_17, L_18, a_19, a_20, a_21, a_22, a_23, ((x_10.2.2.2.2.2.2.2.1) + z_24), ((x_10.2.2.2.2.2.2.2.2.1) + z_26), z_28, z_30, ((x_10.2.2.2.2.2.2.2.2.2.2.2) + z_32)) (by omega) (by omega) (by subst ez_32; subst ez_30; subst ez_28; subst ez_26; subst ez_24; subst ea_23; subst ea_22; subst ea_21; subst ea_20; subst ea_19; subst eL_18; subst eM_17; rw [show lp fx_10 (i_9 + 1) (M_2, L_3, a_4, a_5, a_6, a_7, a_8, 0, 0, (-9), 0, 0) = fx_10 i_9 (lp fx_10 i_9 (M_2, L_3, a_4, a_5, a_6, a_7, a_8, 0, 0, (-9), 0, 0)) from rfl, ← ex_x_10, hfx_10]; try (first | (rfl; done) | rfl)) (by show M_17 33 = M 33; rw [eM_17]; exact (tries_fr _ _ _ _ _ _ _ _ _ _ _ 33 (by omega)).trans hv_x_10) _ _ hP hD hS _ (lv_sub hl [2, 3, 4, 5, 6, 7, 8, 1, 0] rfl)
                  refine lv_icmp_ge (tgt := 202) hx hb dX9_trials_195 (by decide) (fun c_34 => ?_) (fun c_34 => ?_)
                  · skip
                    refine lv_iconst (v := 0) hx hb dX9_trials_202 (by decide +kernel) ?_
                    exact J_33 0 (by first | (simp only [if_pos c_34]; done) | rfl) _ _ hP hD hS _ (lv_sub hl [1, 2, 3, 4, 5, 6, 0, 8] rfl)
                  · skip
                    refine lv_iconst (v := 1) hx hb dX9_trials_198 (by decide +kernel) ?_
                    refine lv_goto (tgt := 203) hx hb dX9_trials_199 (by decide) ?_
                    exact J_33 1 (by first | (simp only [if_neg c_34]; done) | rfl) _ _ hP hD hS _ (lv_sub hl [1, 2, 3, 4, 5, 6, 0, 8] rfl)
                refine lv_icmp_le (tgt := 182) hx hb dX9_trials_170 (by decide) (fun c_35 => ?_) (fun c_35 => ?_)
                · skip
                  refine lv_iload hx hb dX9_trials_182 (lv_at hl 6 rfl) ?_
                  exact J_31 (x_10.2.2.2.2.2.2.2.2.2.2.1) (by first | (simp only [if_pos c_35]; done) | rfl) _ _ hP hD hS _ (lv_sub hl [1, 2, 3, 4, 5, 0, 7, 8] rfl)
                · skip
                  refine lv_aload_n hx hb dX9_trials_173 rfl (lv_at hl 1 rfl) ?_
                  refine k_get hx hb hts hi9 hown hK hP 0 rfl rfl 34 (by decide) hf53 (.ref (r 34)) rfl dX9_trials_174 ?_
                  refine lv_iconst (v := 0) hx hb dX9_trials_177 (by decide +kernel) ?_
                  refine k_iald hx hb hK hP 5 0 rfl rfl 0 (by decide +kernel) (vp_in_iff.mpr (by decide +kernel)) dX9_trials_178 ?_
                  refine lv_goto (tgt := 184) hx hb dX9_trials_179 (by decide) ?_
                  exact J_31 (a_22 0) (by first | (simp only [if_neg c_35]; done) | rfl) _ _ hP hD hS _ (lv_sub hl [1, 2, 3, 4, 5, 0, 7, 8] rfl)
              refine lv_icmp_le (tgt := 158) hx hb dX9_trials_129 (by decide) (fun c_36 => ?_) (fun c_36 => ?_)
              · skip
                refine lv_iload hx hb dX9_trials_158 (lv_at hl 5 rfl) ?_
                exact J_29 (x_10.2.2.2.2.2.2.2.2.2.1) (by first | (simp only [if_pos c_36]; done) | rfl) _ _ hP hD hS _ (lv_sub hl [1, 2, 3, 4, 0, 6, 7, 8] rfl)
              · skip
                refine lv_aload_n hx hb dX9_trials_132 rfl (lv_at hl 1 rfl) ?_
                refine k_get hx hb hts hi9 hown hK hP 0 rfl rfl 34 (by decide) hf53 (.ref (r 34)) rfl dX9_trials_133 ?_
                refine lv_iconst (v := 1) hx hb dX9_trials_136 (by decide +kernel) ?_
                refine k_iald hx hb hK hP 5 0 rfl rfl 1 (by decide +kernel) (vp_in_iff.mpr (by decide +kernel)) dX9_trials_137 ?_
                refine lv_iload hx hb dX9_trials_138 (lv_at hl 9 rfl) ?_
                refine lv_isub hx hb dX9_trials_140 ?_
                refine lv_iload hx hb dX9_trials_141 (lv_at hl 5 rfl) ?_
                refine lv_icmp_le (tgt := 158) hx hb dX9_trials_143 (by decide) (fun c_37 => ?_) (fun c_37 => ?_)
                · skip
                  refine lv_iload hx hb dX9_trials_158 (lv_at hl 5 rfl) ?_
                  exact J_29 (x_10.2.2.2.2.2.2.2.2.2.1) (by first | (simp only [if_neg c_36, if_pos c_37]; done) | rfl) _ _ hP hD hS _ (lv_sub hl [1, 2, 3, 4, 0, 6, 7, 8] rfl)
                · skip
                  refine lv_aload_n hx hb dX9_trials_146 rfl (lv_at hl 1 rfl) ?_
                  refine k_get hx hb hts hi9 hown hK hP 0 rfl rfl 34 (by decide) hf53 (.ref (r 34)) rfl dX9_trials_147 ?_
                  refine lv_iconst (v := 1) hx hb dX9_trials_150 (by decide +kernel) ?_
                  refine k_iald hx hb hK hP 5 0 rfl rfl 1 (by decide +kernel) (vp_in_iff.mpr (by decide +kernel)) dX9_trials_151 ?_
                  refine lv_iload hx hb dX9_trials_152 (lv_at hl 9 rfl) ?_
                  refine lv_isub hx hb dX9_trials_154 ?_
                  refine lv_goto (tgt := 160) hx hb dX9_trials_155 (by decide) ?_
                  exact J_29 ((a_22 1) - ((nI i_9) / 18)) (by first | (simp only [if_neg c_36, if_neg c_37]; done) | rfl) _ _ hP hD hS _ (lv_sub hl [1, 2, 3, 4, 0, 6, 7, 8] rfl)
            refine lv_icmp_eq (tgt := 117) hx hb dX9_trials_110 (by decide) (fun c_38 => ?_) (fun c_38 => ?_)
            · skip
              refine lv_iconst (v := 0) hx hb dX9_trials_117 (by decide +kernel) ?_
              exact J_27 0 (by first | (simp only [if_pos c_38]; done) | rfl) _ _ hP hD hS _ (lv_sub hl [1, 2, 3, 0, 5, 6, 7, 8, 9] rfl)
            · skip
              refine lv_iconst (v := 1) hx hb dX9_trials_113 (by decide +kernel) ?_
              refine lv_goto (tgt := 118) hx hb dX9_trials_114 (by decide) ?_
              exact J_27 1 (by first | (simp only [if_neg c_38]; done) | rfl) _ _ hP hD hS _ (lv_sub hl [1, 2, 3, 0, 5, 6, 7, 8, 9] rfl)
          refine lv_if_le (tgt := 97) hx hb dX9_trials_90 (by decide) (fun c_39 => ?_) (fun c_39 => ?_)
          · skip
            refine lv_iconst (v := 0) hx hb dX9_trials_97 (by decide +kernel) ?_
            exact J_25 0 (by first | (simp only [if_pos c_39]; done) | rfl) _ _ hP hD hS _ (lv_sub hl [1, 2, 3, 5, 6, 7, 8, 9, 0] rfl)
          · skip
            refine lv_iconst (v := 1) hx hb dX9_trials_93 (by decide +kernel) ?_
            refine lv_goto (tgt := 98) hx hb dX9_trials_94 (by decide) ?_
            exact J_25 1 (by first | (simp only [if_neg c_39]; done) | rfl) _ _ hP hD hS _ (lv_sub hl [1, 2, 3, 5, 6, 7, 8, 9, 0] rfl)
    exact Lx_10 ((18 * (M 33)).toNatClampNeg + 1) 0 (M_2, L_3, a_4, a_5, a_6, a_7, a_8, 0, 0, (-9), 0, 0) (by omega) (Nat.zero_le _) rfl (by show M_2 33 = M 33; rw [eM_2]; exact tries_fr _ _ _ _ _ _ _ _ _ _ _ 33 (by omega)) _ _ hP hD hS _ (lv_sub hl [7, 8, 6, 5, 4, 3, 2, 1, 0] rfl)
  · skip
    refine lv_bipush (v := (-2)) hx hb dX9_trials_9 (by decide +kernel) ?_
    have hsp : sp_X9_trials M L a5 a6 a12 a32 a34 a35 what = ((-2), M, L, a5, a6, a12, a34, a35) := by simp only [sp_X9_trials, if_pos c_1]
    exact hret _ _ _ _ _ (by rw [hsp]) rfl (by rw [hsp]; exact hP) hS dX9_trials_11

def bd_X9_ticks_22 (L : Int64) (a5 : Nat → Int32) (a6 : Nat → Int32) (set : Int32) (i_3 : Nat) (x_4 : (Nat → Int32) × (Nat → Int32) × (Nat → Int32) × (Nat → Int32) × (Nat → Int32)) : (Nat → Int32) × (Nat → Int32) × (Nat → Int32) × (Nat → Int32) × (Nat → Int32) :=
  (let M_5 : Nat → Int32 := ((sp_X9_tickBy (x_4.1) L a5 a6 (x_4.2.1) set).1); (let a_6 : Nat → Int32 := ((sp_X9_tickBy (x_4.1) L a5 a6 (x_4.2.1) set).2); (let M_7 : Nat → Int32 := ((sp_X9_notes M_5 L (x_4.2.2.1) (x_4.2.2.2.1) (x_4.2.2.2.2) ((x_4.1) 7)).1); (let a_8 : Nat → Int32 := ((sp_X9_notes M_5 L (x_4.2.2.1) (x_4.2.2.2.1) (x_4.2.2.2.2) ((x_4.1) 7)).2.1); (let a_9 : Nat → Int32 := ((sp_X9_notes M_5 L (x_4.2.2.1) (x_4.2.2.2.1) (x_4.2.2.2.2) ((x_4.1) 7)).2.2.1); (let a_10 : Nat → Int32 := ((sp_X9_notes M_5 L (x_4.2.2.1) (x_4.2.2.2.1) (x_4.2.2.2.2) ((x_4.1) 7)).2.2.2); (M_7, a_6, a_8, a_9, a_10)))))))
def sp_X9_ticks (M : Nat → Int32) (L : Int64) (a5 : Nat → Int32) (a6 : Nat → Int32) (a12 : Nat → Int32) (a28 : Nat → Int32) (a29 : Nat → Int32) (a31 : Nat → Int32) (set : Int32) (n : Int32) : Int32 × (Nat → Int32) × (Nat → Int32) × (Nat → Int32) × (Nat → Int32) × (Nat → Int32) :=
  (if (sp_X9_isSet set) = 0 then
    ((-2), M, a12, a28, a29, a31)
  else
    (if (sp_X9_within n 0 60) = 0 then
      ((-2), M, a12, a28, a29, a31)
    else
      let x_4 : (Nat → Int32) × (Nat → Int32) × (Nat → Int32) × (Nat → Int32) × (Nat → Int32) := lp (bd_X9_ticks_22 L a5 a6 set) n.toNatClampNeg (M, a12, a28, a29, a31)
      (((x_4.1) 7), (x_4.1), (x_4.2.1), (x_4.2.2.1), (x_4.2.2.2.1), (x_4.2.2.2.2))))
set_option maxRecDepth 100000 in
theorem sq_X9_ticks_1 (M : Nat → Int32) (L : Int64) (a5 : Nat → Int32) (a6 : Nat → Int32) (a12 : Nat → Int32) (a28 : Nat → Int32) (a29 : Nat → Int32) (a31 : Nat → Int32) (set : Int32) (n : Int32) (x_4 : (Nat → Int32) × (Nat → Int32) × (Nat → Int32) × (Nat → Int32) × (Nat → Int32)) (ex_4 : x_4 = lp (bd_X9_ticks_22 L a5 a6 set) n.toNatClampNeg (M, a12, a28, a29, a31)) (c_1 : ¬ ((sp_X9_isSet set) = 0)) (c_2 : ¬ ((sp_X9_within n 0 60) = 0)) : sp_X9_ticks M L a5 a6 a12 a28 a29 a31 set n = (((x_4.1) 7), (x_4.1), (x_4.2.1), (x_4.2.2.1), (x_4.2.2.2.1), (x_4.2.2.2.2)) := by subst ex_4; simp only [sp_X9_ticks, if_neg c_1, if_neg c_2]
set_option maxHeartbeats 4000000 in
set_option maxRecDepth 100000 in
theorem c_X9_ticks (l : Launch) (D : va_G) (cI cJ cO : ClassId) (h : Nat) (r : Nat → Nat) (M : Nat → Int32) (L : Int64) (a5 : Nat → Int32) (a6 : Nat → Int32) (a12 : Nat → Int32) (a28 : Nat → Int32) (a29 : Nat → Int32) (a31 : Nat → Int32) (set : Int32) (n : Int32) (hk : ¬ sp_X9_isSet set = 0 → ¬ sp_X9_within n 0 60 = 0 → ∀ i x, i < n.toNatClampNeg → x = lp (bd_X9_ticks_22 L a5 a6 set) i (M, a12, a28, a29, a31) → okn (sp_X9_tickBy x.1 L a5 a6 x.2.1 set).1 x.2.2.2.1 (x.1 7)) : MI l D (TY cI cJ cO) yX9_ticks wsX9_ticks (RM 3) [.ref h, .int set, .int n] [(h, oX9 r M L), ((r 5), .inl (cI, 9, .inl a5)), ((r 6), .inl (cI, 2, .inl a6)), ((r 12), .inl (cI, 3, .inl a12)), ((r 28), .inl (cI, 90, .inl a28)), ((r 29), .inl (cI, 5, .inl a29)), ((r 31), .inl (cI, 5, .inl a31))] ((sp_X9_ticks M L a5 a6 a12 a28 a29 a31 set n).1) [(h, oX9 r ((sp_X9_ticks M L a5 a6 a12 a28 a29 a31 set n).2.1) L), ((r 5), .inl (cI, 9, .inl a5)), ((r 6), .inl (cI, 2, .inl a6)), ((r 12), .inl (cI, 3, .inl ((sp_X9_ticks M L a5 a6 a12 a28 a29 a31 set n).2.2.1))), ((r 28), .inl (cI, 90, .inl ((sp_X9_ticks M L a5 a6 a12 a28 a29 a31 set n).2.2.2.1))), ((r 29), .inl (cI, 5, .inl ((sp_X9_ticks M L a5 a6 a12 a28 a29 a31 set n).2.2.2.2.1))), ((r 31), .inl (cI, 5, .inl ((sp_X9_ticks M L a5 a6 a12 a28 a29 a31 set n).2.2.2.2.2)))] := by
  refine k_entI (cc := cX9_ticks) (maxL := 5) (lv := [(0, .ref h), (1, .int set), (2, .int n)]) (by decide +kernel) rfl (Nat.le_of_ble_eq_true rfl) rfl ?_
  intro p e s m below meth c A Q ls hx hb hml hts hown hA hS hP hD hK hN hl hret
  have hown : s.vm.findClass RX9 = some m.cls := hown
  have hi9 : ∀ w ∈ wsX90, w ∈ wsX9_ticks := fun w h => List.mem_cons_of_mem _ (List.mem_append_right _ h)
  have hf32 := hts (.fieldLink RX9 32 "PressGuardModel" "mode" "I") (by decide +kernel)
  refine lv_iload_n hx hb dX9_ticks_0 rfl (lv_at hl 1 rfl) ?_
  refine k_Si ⟨hx, hb, hml, hown, hts⟩ (c_X9_isSet l D cI cJ cO set) (va_cwS 1 hts gX9_ticks_X9_isSet rfl rfl rfl (by decide +kernel) ⟨Nat.le_of_ble_eq_true rfl, Nat.le_of_ble_eq_true rfl⟩) hK hN hP hD hS hA [] rfl rfl rfl (ws' := [(h, oX9 r M L), ((r 5), .inl (cI, 9, .inl a5)), ((r 6), .inl (cI, 2, .inl a6)), ((r 12), .inl (cI, 3, .inl a12)), ((r 28), .inl (cI, 90, .inl a28)), ((r 29), .inl (cI, 5, .inl a29)), ((r 31), .inl (cI, 5, .inl a31))]) rfl rfl hl.1 rfl (Nat.le_of_ble_eq_true rfl) dX9_ticks_1 ⟨Nat.le_refl _, Nat.le_refl _⟩ (fun H locs hP hD hS => ?_)
  refine lv_if_eq (tgt := 17) hx hb dX9_ticks_4 (by decide) (fun c_1 => ?_) (fun c_1 => ?_)
  · skip
    refine lv_bipush (v := (-2)) hx hb dX9_ticks_17 (by decide +kernel) ?_
    have hsp : sp_X9_ticks M L a5 a6 a12 a28 a29 a31 set n = ((-2), M, a12, a28, a29, a31) := by simp only [sp_X9_ticks, if_pos c_1]
    exact hret _ _ _ _ _ (by rw [hsp]) rfl (by rw [hsp]; exact hP) hS dX9_ticks_19
  · skip
    refine lv_iload_n hx hb dX9_ticks_7 rfl (lv_at hl 2 rfl) ?_
    refine lv_iconst (v := 0) hx hb dX9_ticks_8 (by decide +kernel) ?_
    refine lv_bipush (v := 60) hx hb dX9_ticks_9 (by decide +kernel) ?_
    refine k_Si ⟨hx, hb, hml, hown, hts⟩ (c_X9_within l D cI cJ cO n 0 60) (va_cwS 3 hts gX9_ticks_X9_within rfl rfl rfl (by decide +kernel) ⟨Nat.le_of_ble_eq_true rfl, Nat.le_of_ble_eq_true rfl⟩) hK hN hP hD hS hA [] rfl rfl rfl (ws' := [(h, oX9 r M L), ((r 5), .inl (cI, 9, .inl a5)), ((r 6), .inl (cI, 2, .inl a6)), ((r 12), .inl (cI, 3, .inl a12)), ((r 28), .inl (cI, 90, .inl a28)), ((r 29), .inl (cI, 5, .inl a29)), ((r 31), .inl (cI, 5, .inl a31))]) rfl rfl hl.1 rfl (Nat.le_of_ble_eq_true rfl) dX9_ticks_11 ⟨Nat.le_refl _, Nat.le_refl _⟩ (fun H locs hP hD hS => ?_)
    refine lv_if_ne (tgt := 20) hx hb dX9_ticks_14 (by decide) (fun c_2 => ?_) (fun c_2 => ?_)
    · skip
      refine lv_iconst (v := 0) hx hb dX9_ticks_20 (by decide +kernel) ?_
      refine lv_istore_n (lv' := [(3, .int 0), (0, .ref h), (1, .int set), (2, .int n)]) hx hb dX9_ticks_21 rfl hl (by decide) rfl (fun ls hl => ?_)
      obtain ⟨fx_4, hfx_4⟩ : ∃ f : Nat → (Nat → Int32) × (Nat → Int32) × (Nat → Int32) × (Nat → Int32) × (Nat → Int32) → (Nat → Int32) × (Nat → Int32) × (Nat → Int32) × (Nat → Int32) × (Nat → Int32), f = (bd_X9_ticks_22 L a5 a6 set) := ⟨_, rfl⟩
      have hB_x_4 : n = nI n.toNatClampNeg := nI_self (wi_ok c_2).1
      have hN_x_4 : n.toNatClampNeg < 2 ^ 31 := clamp_lt _
      have Lx_4 : ∀ (nn i_3 : Nat) (x_4 : (Nat → Int32) × (Nat → Int32) × (Nat → Int32) × (Nat → Int32) × (Nat → Int32)), n.toNatClampNeg + 1 ≤ i_3 + nn → i_3 ≤ n.toNatClampNeg → x_4 = lp fx_4 i_3 (M, a12, a28, a29, a31) → ∀ (H : Heap) (locs : List Loc), va_P D vwCl [(h, oX9 r (x_4.1) L), ((r 5), .inl (cI, 9, .inl a5)), ((r 6), .inl (cI, 2, .inl a6)), ((r 12), .inl (cI, 3, .inl (x_4.2.1))), ((r 28), .inl (cI, 90, .inl (x_4.2.2.1))), ((r 29), .inl (cI, 5, .inl (x_4.2.2.2.1))), ((r 31), .inl (cI, 5, .inl (x_4.2.2.2.2)))] H → va_D A [(h, oX9 r (x_4.1) L), ((r 5), .inl (cI, 9, .inl a5)), ((r 6), .inl (cI, 2, .inl a6)), ((r 12), .inl (cI, 3, .inl (x_4.2.1))), ((r 28), .inl (cI, 90, .inl (x_4.2.2.1))), ((r 29), .inl (cI, 5, .inl (x_4.2.2.2.1))), ((r 31), .inl (cI, 5, .inl (x_4.2.2.2.2)))] → va_S A s.heap H locs → ∀ ls : Array Slot, lv_has ls 5 [(0, .ref h), (1, .int set), (2, .int n), (3, .int (nI i_3))] → W p l e (RM 3) s m ([.ref h, .int set, .int n] : List Value).toArray below meth c H locs 0 0 Q (F0 m 22 ls []) := by
        intro nn_x_4
        induction nn_x_4 with
        | zero => intro i_3 x_4 h1 h2; exact absurd h1 (by omega)
        | succ nn_x_4 ih_x_4 =>
          intro i_3 x_4 hn_x_4 hi_i_3 ex_x_4 H locs hP hD hS ls hl
          refine lv_iload_n hx hb dX9_ticks_22 rfl (lv_at hl 3 rfl) ?_
          refine lv_iload_n hx hb dX9_ticks_23 rfl (lv_at hl 2 rfl) ?_
          refine lv_icmp_ge (tgt := 50) hx hb dX9_ticks_24 (by decide) (fun c_5 => ?_) (fun c_5 => ?_)
          · skip
            have hq_x_4 : i_3 = n.toNatClampNeg := k_eq hB_x_4 c_5 hi_i_3 hN_x_4
            have ex_4 : x_4 = lp (bd_X9_ticks_22 L a5 a6 set) n.toNatClampNeg (M, a12, a28, a29, a31) := by rw [ex_x_4, hfx_4, hq_x_4]
            refine lv_aload_n hx hb dX9_ticks_50 rfl (lv_at hl 0 rfl) ?_
            refine k_get hx hb hts hi9 hown hK hP 0 rfl rfl 7 (by decide) hf32 (.int ((x_4.1) 7)) rfl dX9_ticks_51 ?_
            have hsp : sp_X9_ticks M L a5 a6 a12 a28 a29 a31 set n = (((x_4.1) 7), (x_4.1), (x_4.2.1), (x_4.2.2.1), (x_4.2.2.2.1), (x_4.2.2.2.2)) := sq_X9_ticks_1 M L a5 a6 a12 a28 a29 a31 set n x_4 ex_4 c_1 c_2
            exact hret _ _ _ _ _ (by rw [hsp]) rfl (by rw [hsp]; exact hP) hS dX9_ticks_54
          · skip
            have hlt_i_3 : i_3 < n.toNatClampNeg := k_lt hB_x_4 c_5 hi_i_3 hN_x_4
            refine lv_aload_n hx hb dX9_ticks_27 rfl (lv_at hl 0 rfl) ?_
            refine k_get hx hb hts hi9 hown hK hP 0 rfl rfl 7 (by decide) hf32 (.int ((x_4.1) 7)) rfl dX9_ticks_28 ?_
            refine lv_istore (lv' := [(4, .int ((x_4.1) 7)), (0, .ref h), (1, .int set), (2, .int n), (3, .int (nI i_3))]) hx hb dX9_ticks_31 hl (by decide) rfl (fun ls hl => ?_)
            refine lv_aload_n hx hb dX9_ticks_33 rfl (lv_at hl 1 rfl) ?_
            refine lv_iload_n hx hb dX9_ticks_34 rfl (lv_at hl 2 rfl) ?_
            obtain ⟨M_6, eM_6⟩ : ∃ q : Nat → Int32, q = ((sp_X9_tickBy (x_4.1) L a5 a6 (x_4.2.1) set).1) := ⟨_, rfl⟩
            obtain ⟨a_7, ea_7⟩ : ∃ q : Nat → Int32, q = ((sp_X9_tickBy (x_4.1) L a5 a6 (x_4.2.1) set).2) := ⟨_, rfl⟩
            refine k_Vv ⟨hx, hb, hml, hown, hts⟩ (c_X9_tickBy l D cI cJ cO h r (x_4.1) L a5 a6 (x_4.2.1) set) (ci := 9) (q0 := 0) rfl rfl (cwV 1 hts gX9_ticks_X9_tickBy rfl rfl rfl (by decide +kernel) ⟨Nat.le_of_ble_eq_true rfl, Nat.le_of_ble_eq_true rfl⟩) hK hN hP hD hS hA [0, 1, 2, 3] rfl rfl rfl (ws' := [(h, oX9 r M_6 L), ((r 5), .inl (cI, 9, .inl a5)), ((r 6), .inl (cI, 2, .inl a6)), ((r 12), .inl (cI, 3, .inl a_7)), ((r 28), .inl (cI, 90, .inl (x_4.2.2.1))), ((r 29), .inl (cI, 5, .inl (x_4.2.2.2.1))), ((r 31), .inl (cI, 5, .inl (x_4.2.2.2.2)))]) (by rw [eM_6, ea_7]; rfl) rfl hl.1 rfl (Nat.le_of_ble_eq_true rfl) dX9_ticks_35 ⟨Nat.le_refl _, Nat.le_refl _⟩ (fun H locs hP hD hS => ?_)
            refine lv_aload_n hx hb dX9_ticks_38 rfl (lv_at hl 1 rfl) ?_
            refine lv_iload hx hb dX9_ticks_39 (lv_at hl 0 rfl) ?_
            obtain ⟨M_8, eM_8⟩ : ∃ q : Nat → Int32, q = ((sp_X9_notes M_6 L (x_4.2.2.1) (x_4.2.2.2.1) (x_4.2.2.2.2) ((x_4.1) 7)).1) := ⟨_, rfl⟩
            obtain ⟨a_9, ea_9⟩ : ∃ q : Nat → Int32, q = ((sp_X9_notes M_6 L (x_4.2.2.1) (x_4.2.2.2.1) (x_4.2.2.2.2) ((x_4.1) 7)).2.1) := ⟨_, rfl⟩
            obtain ⟨a_10, ea_10⟩ : ∃ q : Nat → Int32, q = ((sp_X9_notes M_6 L (x_4.2.2.1) (x_4.2.2.2.1) (x_4.2.2.2.2) ((x_4.1) 7)).2.2.1) := ⟨_, rfl⟩
            obtain ⟨a_11, ea_11⟩ : ∃ q : Nat → Int32, q = ((sp_X9_notes M_6 L (x_4.2.2.1) (x_4.2.2.2.1) (x_4.2.2.2.2) ((x_4.1) 7)).2.2.2) := ⟨_, rfl⟩
            refine k_Vv ⟨hx, hb, hml, hown, hts⟩ (c_X9_notes l D cI cJ cO h r M_6 L (x_4.2.2.1) (x_4.2.2.2.1) (x_4.2.2.2.2) ((x_4.1) 7) (hk c_1 c_2 _ x_4 hlt_i_3 (by rw [ex_x_4, hfx_4])).1 (by rw [eM_6]; exact (hk c_1 c_2 _ x_4 hlt_i_3 (by rw [ex_x_4, hfx_4])).2.1) (by rw [eM_6]; exact (hk c_1 c_2 _ x_4 hlt_i_3 (by rw [ex_x_4, hfx_4])).2.2.1) (by rw [eM_6]; exact (hk c_1 c_2 _ x_4 hlt_i_3 (by rw [ex_x_4, hfx_4])).2.2.2.1) (by rw [eM_6]; exact (hk c_1 c_2 _ x_4 hlt_i_3 (by rw [ex_x_4, hfx_4])).2.2.2.2)) (ci := 9) (q0 := 0) rfl rfl (cwV 1 hts gX9_ticks_X9_notes rfl rfl rfl (by decide +kernel) ⟨Nat.le_of_ble_eq_true rfl, Nat.le_of_ble_eq_true rfl⟩) hK hN hP hD hS hA [0, 4, 5, 6] rfl rfl rfl (ws' := [(h, oX9 r M_8 L), ((r 5), .inl (cI, 9, .inl a5)), ((r 6), .inl (cI, 2, .inl a6)), ((r 12), .inl (cI, 3, .inl a_7)), ((r 28), .inl (cI, 90, .inl a_9)), ((r 29), .inl (cI, 5, .inl a_10)), ((r 31), .inl (cI, 5, .inl a_11))]) (by rw [eM_8, ea_9, ea_10, ea_11]; rfl) rfl hl.1 rfl (Nat.le_of_ble_eq_true rfl) dX9_ticks_41 ⟨Nat.le_refl _, Nat.le_refl _⟩ (fun H locs hP hD hS => ?_)
            refine lv_iinc (v := (nI (i_3 + 1))) (lv' := [(3, .int (nI (i_3 + 1))), (4, .int ((x_4.1) 7)), (0, .ref h), (1, .int set), (2, .int n)]) hx hb dX9_ticks_44 hl (k := 4) rfl (nI_1 i_3) (by decide) rfl (fun ls hl => ?_)
            refine lv_goto (tgt := 22) hx hb dX9_ticks_47 (by decide) ?_
            exact ih_x_4 (i_3 + 1) (M_8, a_7, a_9, a_10, a_11) (by omega) (by omega) (by subst ea_11; subst ea_10; subst ea_9; subst eM_8; subst ea_7; subst eM_6; rw [show lp fx_4 (i_3 + 1) (M, a12, a28, a29, a31) = fx_4 i_3 (lp fx_4 i_3 (M, a12, a28, a29, a31)) from rfl, ← ex_x_4, hfx_4]; try (first | (rfl; done) | rfl)) _ _ hP hD hS _ (lv_sub hl [2, 3, 4, 0] rfl)
      exact Lx_4 (n.toNatClampNeg + 1) 0 (M, a12, a28, a29, a31) (by omega) (Nat.zero_le _) rfl _ _ hP hD hS _ (lv_sub hl [1, 2, 3, 0] rfl)
    · skip
      refine lv_bipush (v := (-2)) hx hb dX9_ticks_17 (by decide +kernel) ?_
      have hsp : sp_X9_ticks M L a5 a6 a12 a28 a29 a31 set n = ((-2), M, a12, a28, a29, a31) := by simp only [sp_X9_ticks, if_neg c_1, if_pos c_2]
      exact hret _ _ _ _ _ (by rw [hsp]) rfl (by rw [hsp]; exact hP) hS dX9_ticks_19

def sp_X9_tick (M : Nat → Int32) (L : Int64) (a5 : Nat → Int32) (a6 : Nat → Int32) (a12 : Nat → Int32) (a28 : Nat → Int32) (a29 : Nat → Int32) (a31 : Nat → Int32) (set : Int32) : Int32 × (Nat → Int32) × (Nat → Int32) × (Nat → Int32) × (Nat → Int32) × (Nat → Int32) :=
  let M_1 : Nat → Int32 := ((sp_X9_ticks M L a5 a6 a12 a28 a29 a31 set 1).2.1)
  let a_2 : Nat → Int32 := ((sp_X9_ticks M L a5 a6 a12 a28 a29 a31 set 1).2.2.1)
  let a_3 : Nat → Int32 := ((sp_X9_ticks M L a5 a6 a12 a28 a29 a31 set 1).2.2.2.1)
  let a_4 : Nat → Int32 := ((sp_X9_ticks M L a5 a6 a12 a28 a29 a31 set 1).2.2.2.2.1)
  let a_5 : Nat → Int32 := ((sp_X9_ticks M L a5 a6 a12 a28 a29 a31 set 1).2.2.2.2.2)
  (((sp_X9_ticks M L a5 a6 a12 a28 a29 a31 set 1).1), M_1, a_2, a_3, a_4, a_5)
set_option maxRecDepth 100000 in
theorem sq_X9_tick_1 (M : Nat → Int32) (L : Int64) (a5 : Nat → Int32) (a6 : Nat → Int32) (a12 : Nat → Int32) (a28 : Nat → Int32) (a29 : Nat → Int32) (a31 : Nat → Int32) (set : Int32) (M_1 : Nat → Int32) (a_2 : Nat → Int32) (a_3 : Nat → Int32) (a_4 : Nat → Int32) (a_5 : Nat → Int32) (eM_1 : M_1 = ((sp_X9_ticks M L a5 a6 a12 a28 a29 a31 set 1).2.1)) (ea_2 : a_2 = ((sp_X9_ticks M L a5 a6 a12 a28 a29 a31 set 1).2.2.1)) (ea_3 : a_3 = ((sp_X9_ticks M L a5 a6 a12 a28 a29 a31 set 1).2.2.2.1)) (ea_4 : a_4 = ((sp_X9_ticks M L a5 a6 a12 a28 a29 a31 set 1).2.2.2.2.1)) (ea_5 : a_5 = ((sp_X9_ticks M L a5 a6 a12 a28 a29 a31 set 1).2.2.2.2.2)) : sp_X9_tick M L a5 a6 a12 a28 a29 a31 set = (((sp_X9_ticks M L a5 a6 a12 a28 a29 a31 set 1).1), M_1, a_2, a_3, a_4, a_5) := by subst ea_5; subst ea_4; subst ea_3; subst ea_2; subst eM_1; rfl
set_option maxHeartbeats 4000000 in
set_option maxRecDepth 100000 in
theorem c_X9_tick (l : Launch) (D : va_G) (cI cJ cO : ClassId) (h : Nat) (r : Nat → Nat) (M : Nat → Int32) (L : Int64) (a5 : Nat → Int32) (a6 : Nat → Int32) (a12 : Nat → Int32) (a28 : Nat → Int32) (a29 : Nat → Int32) (a31 : Nat → Int32) (set : Int32) (hk : ¬ sp_X9_isSet set = 0 → ¬ sp_X9_within 1 0 60 = 0 → ∀ i x, i < (1 : Int32).toNatClampNeg → x = lp (bd_X9_ticks_22 L a5 a6 set) i (M, a12, a28, a29, a31) → okn (sp_X9_tickBy x.1 L a5 a6 x.2.1 set).1 x.2.2.2.1 (x.1 7)) : MI l D (TY cI cJ cO) yX9_tick wsX9_tick (RM 4) [.ref h, .int set] [(h, oX9 r M L), ((r 5), .inl (cI, 9, .inl a5)), ((r 6), .inl (cI, 2, .inl a6)), ((r 12), .inl (cI, 3, .inl a12)), ((r 28), .inl (cI, 90, .inl a28)), ((r 29), .inl (cI, 5, .inl a29)), ((r 31), .inl (cI, 5, .inl a31))] ((sp_X9_tick M L a5 a6 a12 a28 a29 a31 set).1) [(h, oX9 r ((sp_X9_tick M L a5 a6 a12 a28 a29 a31 set).2.1) L), ((r 5), .inl (cI, 9, .inl a5)), ((r 6), .inl (cI, 2, .inl a6)), ((r 12), .inl (cI, 3, .inl ((sp_X9_tick M L a5 a6 a12 a28 a29 a31 set).2.2.1))), ((r 28), .inl (cI, 90, .inl ((sp_X9_tick M L a5 a6 a12 a28 a29 a31 set).2.2.2.1))), ((r 29), .inl (cI, 5, .inl ((sp_X9_tick M L a5 a6 a12 a28 a29 a31 set).2.2.2.2.1))), ((r 31), .inl (cI, 5, .inl ((sp_X9_tick M L a5 a6 a12 a28 a29 a31 set).2.2.2.2.2)))] := by
  refine k_entI (cc := cX9_tick) (maxL := 2) (lv := [(0, .ref h), (1, .int set)]) (by decide +kernel) rfl (Nat.le_of_ble_eq_true rfl) rfl ?_
  intro p e s m below meth c A Q ls hx hb hml hts hown hA hS hP hD hK hN hl hret
  have hown : s.vm.findClass RX9 = some m.cls := hown
  refine lv_aload_n hx hb dX9_tick_0 rfl (lv_at hl 0 rfl) ?_
  refine lv_iload_n hx hb dX9_tick_1 rfl (lv_at hl 1 rfl) ?_
  refine lv_iconst (v := 1) hx hb dX9_tick_2 (by decide +kernel) ?_
  obtain ⟨M_1, eM_1⟩ : ∃ q : Nat → Int32, q = ((sp_X9_ticks M L a5 a6 a12 a28 a29 a31 set 1).2.1) := ⟨_, rfl⟩
  obtain ⟨a_2, ea_2⟩ : ∃ q : Nat → Int32, q = ((sp_X9_ticks M L a5 a6 a12 a28 a29 a31 set 1).2.2.1) := ⟨_, rfl⟩
  obtain ⟨a_3, ea_3⟩ : ∃ q : Nat → Int32, q = ((sp_X9_ticks M L a5 a6 a12 a28 a29 a31 set 1).2.2.2.1) := ⟨_, rfl⟩
  obtain ⟨a_4, ea_4⟩ : ∃ q : Nat → Int32, q = ((sp_X9_ticks M L a5 a6 a12 a28 a29 a31 set 1).2.2.2.2.1) := ⟨_, rfl⟩
  obtain ⟨a_5, ea_5⟩ : ∃ q : Nat → Int32, q = ((sp_X9_ticks M L a5 a6 a12 a28 a29 a31 set 1).2.2.2.2.2) := ⟨_, rfl⟩
  refine k_Vi ⟨hx, hb, hml, hown, hts⟩ (c_X9_ticks l D cI cJ cO h r M L a5 a6 a12 a28 a29 a31 set 1 hk) (ci := 9) (q0 := 0) rfl rfl (cwV 2 hts gX9_tick_X9_ticks rfl rfl rfl (by decide +kernel) ⟨Nat.le_of_ble_eq_true rfl, Nat.le_of_ble_eq_true rfl⟩) hK hN hP hD hS hA [0, 1, 2, 3, 4, 5, 6] rfl rfl rfl (ws' := [(h, oX9 r M_1 L), ((r 5), .inl (cI, 9, .inl a5)), ((r 6), .inl (cI, 2, .inl a6)), ((r 12), .inl (cI, 3, .inl a_2)), ((r 28), .inl (cI, 90, .inl a_3)), ((r 29), .inl (cI, 5, .inl a_4)), ((r 31), .inl (cI, 5, .inl a_5))]) (by rw [eM_1, ea_2, ea_3, ea_4, ea_5]; rfl) rfl hl.1 rfl (Nat.le_of_ble_eq_true rfl) dX9_tick_3 ⟨Nat.le_refl _, Nat.le_refl _⟩ (fun H locs hP hD hS => ?_)
  have hsp : sp_X9_tick M L a5 a6 a12 a28 a29 a31 set = (((sp_X9_ticks M L a5 a6 a12 a28 a29 a31 set 1).1), M_1, a_2, a_3, a_4, a_5) := sq_X9_tick_1 M L a5 a6 a12 a28 a29 a31 set M_1 a_2 a_3 a_4 a_5 eM_1 ea_2 ea_3 ea_4 ea_5
  exact hret _ _ _ _ _ (by rw [hsp]) rfl (by rw [hsp]; exact hP) hS dX9_tick_6

def bd_X9_reach_86 (what : Int32) (M_26 : Nat → Int32) (L_27 : Int64) (a_29 : Nat → Int64) (a_30 : Nat → Int32) (i_32 : Nat) (x_33 : (Int32)) : (Int32) :=
  (let z_34 : Int32 := (if (sp_X9_modeOf M_26 L_27 (a_29 i_32)) = (what - 10) then 1 else 0); (let z_36 : Int32 := (if z_34 = 0 then x_33 else (if x_33 = (-9) then (a_30 i_32) else (if x_33 ≤ (a_30 i_32) then x_33 else (a_30 i_32)))); z_36))
def sp_X9_reach (M : Nat → Int32) (L : Int64) (a5 : Nat → Int32) (a6 : Nat → Int32) (a12 : Nat → Int32) (a36 : Nat → Int64) (a37 : Nat → Int32) (set : Int32) (may : Int32) (n : Int32) (what : Int32) : Int32 × (Nat → Int32) × (Int64) × (Nat → Int32) × (Nat → Int64) × (Nat → Int32) :=
  (if (sp_X9_isSet set) = 0 then
    ((-2), M, L, a12, a36, a37)
  else
    (if (sp_X9_isMay M L may) = 0 then
      ((-2), M, L, a12, a36, a37)
    else
      (if (sp_X9_within n 0 5) = 0 then
        ((-2), M, L, a12, a36, a37)
      else
        (if (sp_X9_within what 0 1) = 0 then
          (if (sp_X9_within what 10 14) = 0 then
            ((-2), M, L, a12, a36, a37)
          else
            let M_26 : Nat → Int32 := ((sp_X9_goesAll M L a5 a6 a12 a36 a37 set may n).1)
            let L_27 : Int64 := ((sp_X9_goesAll M L a5 a6 a12 a36 a37 set may n).2.1)
            let a_28 : Nat → Int32 := ((sp_X9_goesAll M L a5 a6 a12 a36 a37 set may n).2.2.1)
            let a_29 : Nat → Int64 := ((sp_X9_goesAll M L a5 a6 a12 a36 a37 set may n).2.2.2.1)
            let a_30 : Nat → Int32 := ((sp_X9_goesAll M L a5 a6 a12 a36 a37 set may n).2.2.2.2)
            (if 2 ≤ what then
              let x_33 : (Int32) := lp (bd_X9_reach_86 what M_26 L_27 a_29 a_30) ((M_26 38).toNatClampNeg) (-9)
              (x_33, M_26, L_27, a_28, a_29, a_30)
            else
              let z_43 : Int32 := (if what = 0 then (M_26 38) else (M_26 39))
              (z_43, M_26, L_27, a_28, a_29, a_30)))
        else
          let M_5 : Nat → Int32 := ((sp_X9_goesAll M L a5 a6 a12 a36 a37 set may n).1)
          let L_6 : Int64 := ((sp_X9_goesAll M L a5 a6 a12 a36 a37 set may n).2.1)
          let a_7 : Nat → Int32 := ((sp_X9_goesAll M L a5 a6 a12 a36 a37 set may n).2.2.1)
          let a_8 : Nat → Int64 := ((sp_X9_goesAll M L a5 a6 a12 a36 a37 set may n).2.2.2.1)
          let a_9 : Nat → Int32 := ((sp_X9_goesAll M L a5 a6 a12 a36 a37 set may n).2.2.2.2)
          (if 2 ≤ what then
            let x_12 : (Int32) := lp (bd_X9_reach_86 what M_5 L_6 a_8 a_9) ((M_5 38).toNatClampNeg) (-9)
            (x_12, M_5, L_6, a_7, a_8, a_9)
          else
            let z_22 : Int32 := (if what = 0 then (M_5 38) else (M_5 39))
            (z_22, M_5, L_6, a_7, a_8, a_9))))))
set_option maxRecDepth 100000 in
theorem sq_X9_reach_1 (M : Nat → Int32) (L : Int64) (a5 : Nat → Int32) (a6 : Nat → Int32) (a12 : Nat → Int32) (a36 : Nat → Int64) (a37 : Nat → Int32) (set : Int32) (may : Int32) (n : Int32) (what : Int32) (M_5 : Nat → Int32) (L_6 : Int64) (a_7 : Nat → Int32) (a_8 : Nat → Int64) (a_9 : Nat → Int32) (x_12 : (Int32)) (eM_5 : M_5 = ((sp_X9_goesAll M L a5 a6 a12 a36 a37 set may n).1)) (eL_6 : L_6 = ((sp_X9_goesAll M L a5 a6 a12 a36 a37 set may n).2.1)) (ea_7 : a_7 = ((sp_X9_goesAll M L a5 a6 a12 a36 a37 set may n).2.2.1)) (ea_8 : a_8 = ((sp_X9_goesAll M L a5 a6 a12 a36 a37 set may n).2.2.2.1)) (ea_9 : a_9 = ((sp_X9_goesAll M L a5 a6 a12 a36 a37 set may n).2.2.2.2)) (ex_12 : x_12 = lp (bd_X9_reach_86 what M_5 L_6 a_8 a_9) ((M_5 38).toNatClampNeg) (-9)) (c_1 : ¬ ((sp_X9_isSet set) = 0)) (c_2 : ¬ ((sp_X9_isMay M L may) = 0)) (c_3 : ¬ ((sp_X9_within n 0 5) = 0)) (c_4 : ¬ ((sp_X9_within what 0 1) = 0)) (c_10 : 2 ≤ what) : sp_X9_reach M L a5 a6 a12 a36 a37 set may n what = (x_12, M_5, L_6, a_7, a_8, a_9) := by subst ex_12; subst ea_9; subst ea_8; subst ea_7; subst eL_6; subst eM_5; simp only [sp_X9_reach, if_neg c_1, if_neg c_2, if_neg c_3, if_neg c_4, if_pos c_10]
set_option maxRecDepth 100000 in
theorem sq_X9_reach_2 (M : Nat → Int32) (L : Int64) (a5 : Nat → Int32) (a6 : Nat → Int32) (a12 : Nat → Int32) (a36 : Nat → Int64) (a37 : Nat → Int32) (set : Int32) (may : Int32) (n : Int32) (what : Int32) (M_5 : Nat → Int32) (L_6 : Int64) (a_7 : Nat → Int32) (a_8 : Nat → Int64) (a_9 : Nat → Int32) (z_22 : Int32) (eM_5 : M_5 = ((sp_X9_goesAll M L a5 a6 a12 a36 a37 set may n).1)) (eL_6 : L_6 = ((sp_X9_goesAll M L a5 a6 a12 a36 a37 set may n).2.1)) (ea_7 : a_7 = ((sp_X9_goesAll M L a5 a6 a12 a36 a37 set may n).2.2.1)) (ea_8 : a_8 = ((sp_X9_goesAll M L a5 a6 a12 a36 a37 set may n).2.2.2.1)) (ea_9 : a_9 = ((sp_X9_goesAll M L a5 a6 a12 a36 a37 set may n).2.2.2.2)) (ez_22 : z_22 = (if what = 0 then (M_5 38) else (M_5 39))) (c_1 : ¬ ((sp_X9_isSet set) = 0)) (c_2 : ¬ ((sp_X9_isMay M L may) = 0)) (c_3 : ¬ ((sp_X9_within n 0 5) = 0)) (c_4 : ¬ ((sp_X9_within what 0 1) = 0)) (c_10 : ¬ (2 ≤ what)) : sp_X9_reach M L a5 a6 a12 a36 a37 set may n what = (z_22, M_5, L_6, a_7, a_8, a_9) := by subst ez_22; subst ea_9; subst ea_8; subst ea_7; subst eL_6; subst eM_5; simp only [sp_X9_reach, if_neg c_1, if_neg c_2, if_neg c_3, if_neg c_4, if_neg c_10]
set_option maxRecDepth 100000 in
theorem sq_X9_reach_3 (M : Nat → Int32) (L : Int64) (a5 : Nat → Int32) (a6 : Nat → Int32) (a12 : Nat → Int32) (a36 : Nat → Int64) (a37 : Nat → Int32) (set : Int32) (may : Int32) (n : Int32) (what : Int32) (M_26 : Nat → Int32) (L_27 : Int64) (a_28 : Nat → Int32) (a_29 : Nat → Int64) (a_30 : Nat → Int32) (x_33 : (Int32)) (eM_26 : M_26 = ((sp_X9_goesAll M L a5 a6 a12 a36 a37 set may n).1)) (eL_27 : L_27 = ((sp_X9_goesAll M L a5 a6 a12 a36 a37 set may n).2.1)) (ea_28 : a_28 = ((sp_X9_goesAll M L a5 a6 a12 a36 a37 set may n).2.2.1)) (ea_29 : a_29 = ((sp_X9_goesAll M L a5 a6 a12 a36 a37 set may n).2.2.2.1)) (ea_30 : a_30 = ((sp_X9_goesAll M L a5 a6 a12 a36 a37 set may n).2.2.2.2)) (ex_33 : x_33 = lp (bd_X9_reach_86 what M_26 L_27 a_29 a_30) ((M_26 38).toNatClampNeg) (-9)) (c_1 : ¬ ((sp_X9_isSet set) = 0)) (c_2 : ¬ ((sp_X9_isMay M L may) = 0)) (c_3 : ¬ ((sp_X9_within n 0 5) = 0)) (c_4 : (sp_X9_within what 0 1) = 0) (c_25 : ¬ ((sp_X9_within what 10 14) = 0)) (c_31 : 2 ≤ what) : sp_X9_reach M L a5 a6 a12 a36 a37 set may n what = (x_33, M_26, L_27, a_28, a_29, a_30) := by subst ex_33; subst ea_30; subst ea_29; subst ea_28; subst eL_27; subst eM_26; simp only [sp_X9_reach, if_neg c_1, if_neg c_2, if_neg c_3, if_pos c_4, if_neg c_25, if_pos c_31]
set_option maxRecDepth 100000 in
theorem sq_X9_reach_4 (M : Nat → Int32) (L : Int64) (a5 : Nat → Int32) (a6 : Nat → Int32) (a12 : Nat → Int32) (a36 : Nat → Int64) (a37 : Nat → Int32) (set : Int32) (may : Int32) (n : Int32) (what : Int32) (M_26 : Nat → Int32) (L_27 : Int64) (a_28 : Nat → Int32) (a_29 : Nat → Int64) (a_30 : Nat → Int32) (z_43 : Int32) (eM_26 : M_26 = ((sp_X9_goesAll M L a5 a6 a12 a36 a37 set may n).1)) (eL_27 : L_27 = ((sp_X9_goesAll M L a5 a6 a12 a36 a37 set may n).2.1)) (ea_28 : a_28 = ((sp_X9_goesAll M L a5 a6 a12 a36 a37 set may n).2.2.1)) (ea_29 : a_29 = ((sp_X9_goesAll M L a5 a6 a12 a36 a37 set may n).2.2.2.1)) (ea_30 : a_30 = ((sp_X9_goesAll M L a5 a6 a12 a36 a37 set may n).2.2.2.2)) (ez_43 : z_43 = (if what = 0 then (M_26 38) else (M_26 39))) (c_1 : ¬ ((sp_X9_isSet set) = 0)) (c_2 : ¬ ((sp_X9_isMay M L may) = 0)) (c_3 : ¬ ((sp_X9_within n 0 5) = 0)) (c_4 : (sp_X9_within what 0 1) = 0) (c_25 : ¬ ((sp_X9_within what 10 14) = 0)) (c_31 : ¬ (2 ≤ what)) : sp_X9_reach M L a5 a6 a12 a36 a37 set may n what = (z_43, M_26, L_27, a_28, a_29, a_30) := by subst ez_43; subst ea_30; subst ea_29; subst ea_28; subst eL_27; subst eM_26; simp only [sp_X9_reach, if_neg c_1, if_neg c_2, if_neg c_3, if_pos c_4, if_neg c_25, if_neg c_31]
set_option maxHeartbeats 4000000 in
set_option maxRecDepth 100000 in
theorem c_X9_reach (l : Launch) (D : va_G) (cI cJ cO : ClassId) (h : Nat) (r : Nat → Nat) (M : Nat → Int32) (L : Int64) (a5 : Nat → Int32) (a6 : Nat → Int32) (a12 : Nat → Int32) (a36 : Nat → Int64) (a37 : Nat → Int32) (set : Int32) (may : Int32) (n : Int32) (what : Int32) (hsh : (¬ sp_X9_isSet set = 0 ∧ ¬ sp_X9_isMay M L may = 0 ∧ ¬ sp_X9_within n 0 5 = 0) → ¬ (1 <<< ((2 * n) &&& 31) : Int32) < 0) (hn0 : (¬ sp_X9_isSet set = 0 ∧ ¬ sp_X9_isMay M L may = 0 ∧ ¬ sp_X9_within n 0 5 = 0) → ¬ n < 0) (hc1 : (¬ sp_X9_isSet set = 0 ∧ ¬ sp_X9_isMay M L may = 0 ∧ ¬ sp_X9_within n 0 5 = 0) → ∀ i, i < (1 <<< ((2 * n) &&& 31) : Int32).toNatClampNeg → okc (lp (bd_X9_goesAll_25 M L a5 a6 a12 set may n) i ((upd (upd M 38 0) 39 0), L, a12, a36, a37)).1) (hc2 : (¬ sp_X9_isSet set = 0 ∧ ¬ sp_X9_isMay M L may = 0 ∧ ¬ sp_X9_within n 0 5 = 0) → ∀ i x, i < (1 <<< ((2 * n) &&& 31) : Int32).toNatClampNeg → x = lp (bd_X9_goesAll_25 M L a5 a6 a12 set may n) i ((upd (upd M 38 0) 39 0), L, a12, a36, a37) → ∀ j, j < n.toNatClampNeg → okc (lp (bd_X9_goesAll_46 a5 a6 set may i x) j ((sp_X9_comes (x.1) (x.2.1) (x.2.2.1) (x.2.2.2.1) (x.2.2.2.2) 0).1, (x.2.2.1), (sp_X9_comes (x.1) (x.2.1) (x.2.2.1) (x.2.2.2.1) (x.2.2.2.2) 0).2.1, (sp_X9_comes (x.1) (x.2.1) (x.2.2.1) (x.2.2.2.1) (x.2.2.2.2) 0).2.2, 0)).1) (hr0 : (¬ sp_X9_isSet set = 0 ∧ ¬ sp_X9_isMay M L may = 0 ∧ ¬ sp_X9_within n 0 5 = 0) → ¬ (sp_X9_goesAll M L a5 a6 a12 a36 a37 set may n).1 38 < 0) (hr1 : (¬ sp_X9_isSet set = 0 ∧ ¬ sp_X9_isMay M L may = 0 ∧ ¬ sp_X9_within n 0 5 = 0) → ((sp_X9_goesAll M L a5 a6 a12 a36 a37 set may n).1 38).toNatClampNeg ≤ 1400) : MI l D (TY cI cJ cO) yX9_reach wsX9_reach (RM 4) [.ref h, .int set, .int may, .int n, .int what] [(h, oX9 r M L), ((r 5), .inl (cI, 9, .inl a5)), ((r 6), .inl (cI, 2, .inl a6)), ((r 12), .inl (cI, 3, .inl a12)), ((r 36), .inl (cJ, 1400, .inr (.inl a36))), ((r 37), .inl (cI, 1400, .inl a37))] ((sp_X9_reach M L a5 a6 a12 a36 a37 set may n what).1) [(h, oX9 r ((sp_X9_reach M L a5 a6 a12 a36 a37 set may n what).2.1) ((sp_X9_reach M L a5 a6 a12 a36 a37 set may n what).2.2.1)), ((r 5), .inl (cI, 9, .inl a5)), ((r 6), .inl (cI, 2, .inl a6)), ((r 12), .inl (cI, 3, .inl ((sp_X9_reach M L a5 a6 a12 a36 a37 set may n what).2.2.2.1))), ((r 36), .inl (cJ, 1400, .inr (.inl ((sp_X9_reach M L a5 a6 a12 a36 a37 set may n what).2.2.2.2.1)))), ((r 37), .inl (cI, 1400, .inl ((sp_X9_reach M L a5 a6 a12 a36 a37 set may n what).2.2.2.2.2)))] := by
  refine k_entI (cc := cX9_reach) (maxL := 8) (lv := [(0, .ref h), (1, .int set), (2, .int may), (3, .int n), (4, .int what)]) (by decide +kernel) rfl (Nat.le_of_ble_eq_true rfl) rfl ?_
  intro p e s m below meth c A Q ls hx hb hml hts hown hA hS hP hD hK hN hl hret
  have hown : s.vm.findClass RX9 = some m.cls := hown
  have hi9 : ∀ w ∈ wsX90, w ∈ wsX9_reach := fun w h => List.mem_cons_of_mem _ (List.mem_append_right _ h)
  have hf59 := hts (.fieldLink RX9 59 "PressGuardModel" "stateAt" "[J") (by decide +kernel)
  have hf63 := hts (.fieldLink RX9 63 "PressGuardModel" "depthAt" "[I") (by decide +kernel)
  have hf215 := hts (.fieldLink RX9 215 "PressGuardModel" "states" "I") (by decide +kernel)
  have hf218 := hts (.fieldLink RX9 218 "PressGuardModel" "mostDangers" "I") (by decide +kernel)
  refine lv_iload_n hx hb dX9_reach_0 rfl (lv_at hl 1 rfl) ?_
  refine k_Si ⟨hx, hb, hml, hown, hts⟩ (c_X9_isSet l D cI cJ cO set) (va_cwS 1 hts gX9_reach_X9_isSet rfl rfl rfl (by decide +kernel) ⟨Nat.le_of_ble_eq_true rfl, Nat.le_of_ble_eq_true rfl⟩) hK hN hP hD hS hA [] rfl rfl rfl (ws' := [(h, oX9 r M L), ((r 5), .inl (cI, 9, .inl a5)), ((r 6), .inl (cI, 2, .inl a6)), ((r 12), .inl (cI, 3, .inl a12)), ((r 36), .inl (cJ, 1400, .inr (.inl a36))), ((r 37), .inl (cI, 1400, .inl a37))]) rfl rfl hl.1 rfl (Nat.le_of_ble_eq_true rfl) dX9_reach_1 ⟨Nat.le_refl _, Nat.le_refl _⟩ (fun H locs hP hD hS => ?_)
  refine lv_if_eq (tgt := 46) hx hb dX9_reach_4 (by decide) (fun c_1 => ?_) (fun c_1 => ?_)
  · skip
    refine lv_bipush (v := (-2)) hx hb dX9_reach_46 (by decide +kernel) ?_
    have hsp : sp_X9_reach M L a5 a6 a12 a36 a37 set may n what = ((-2), M, L, a12, a36, a37) := by simp only [sp_X9_reach, if_pos c_1]
    exact hret _ _ _ _ _ (by rw [hsp]) rfl (by rw [hsp]; exact hP) hS dX9_reach_48
  · skip
    refine lv_aload_n hx hb dX9_reach_7 rfl (lv_at hl 0 rfl) ?_
    refine lv_iload_n hx hb dX9_reach_8 rfl (lv_at hl 2 rfl) ?_
    refine k_Vi ⟨hx, hb, hml, hown, hts⟩ (c_X9_isMay l D cI cJ cO h r M L may) (ci := 9) (q0 := 0) rfl rfl (cwV 1 hts gX9_reach_X9_isMay rfl rfl rfl (by decide +kernel) ⟨Nat.le_of_ble_eq_true rfl, Nat.le_of_ble_eq_true rfl⟩) hK hN hP hD hS hA [0] rfl rfl rfl (ws' := [(h, oX9 r M L), ((r 5), .inl (cI, 9, .inl a5)), ((r 6), .inl (cI, 2, .inl a6)), ((r 12), .inl (cI, 3, .inl a12)), ((r 36), .inl (cJ, 1400, .inr (.inl a36))), ((r 37), .inl (cI, 1400, .inl a37))]) rfl rfl hl.1 rfl (Nat.le_of_ble_eq_true rfl) dX9_reach_9 ⟨Nat.le_refl _, Nat.le_refl _⟩ (fun H locs hP hD hS => ?_)
    refine lv_if_eq (tgt := 46) hx hb dX9_reach_12 (by decide) (fun c_2 => ?_) (fun c_2 => ?_)
    · skip
      refine lv_bipush (v := (-2)) hx hb dX9_reach_46 (by decide +kernel) ?_
      have hsp : sp_X9_reach M L a5 a6 a12 a36 a37 set may n what = ((-2), M, L, a12, a36, a37) := by simp only [sp_X9_reach, if_neg c_1, if_pos c_2]
      exact hret _ _ _ _ _ (by rw [hsp]) rfl (by rw [hsp]; exact hP) hS dX9_reach_48
    · skip
      refine lv_iload_n hx hb dX9_reach_15 rfl (lv_at hl 3 rfl) ?_
      refine lv_iconst (v := 0) hx hb dX9_reach_16 (by decide +kernel) ?_
      refine lv_iconst (v := 5) hx hb dX9_reach_17 (by decide +kernel) ?_
      refine k_Si ⟨hx, hb, hml, hown, hts⟩ (c_X9_within l D cI cJ cO n 0 5) (va_cwS 3 hts gX9_reach_X9_within rfl rfl rfl (by decide +kernel) ⟨Nat.le_of_ble_eq_true rfl, Nat.le_of_ble_eq_true rfl⟩) hK hN hP hD hS hA [] rfl rfl rfl (ws' := [(h, oX9 r M L), ((r 5), .inl (cI, 9, .inl a5)), ((r 6), .inl (cI, 2, .inl a6)), ((r 12), .inl (cI, 3, .inl a12)), ((r 36), .inl (cJ, 1400, .inr (.inl a36))), ((r 37), .inl (cI, 1400, .inl a37))]) rfl rfl hl.1 rfl (Nat.le_of_ble_eq_true rfl) dX9_reach_18 ⟨Nat.le_refl _, Nat.le_refl _⟩ (fun H locs hP hD hS => ?_)
      refine lv_if_eq (tgt := 46) hx hb dX9_reach_21 (by decide) (fun c_3 => ?_) (fun c_3 => ?_)
      · skip
        refine lv_bipush (v := (-2)) hx hb dX9_reach_46 (by decide +kernel) ?_
        have hsp : sp_X9_reach M L a5 a6 a12 a36 a37 set may n what = ((-2), M, L, a12, a36, a37) := by simp only [sp_X9_reach, if_neg c_1, if_neg c_2, if_pos c_3]
        exact hret _ _ _ _ _ (by rw [hsp]) rfl (by rw [hsp]; exact hP) hS dX9_reach_48
      · skip
        refine lv_iload hx hb dX9_reach_24 (lv_at hl 4 rfl) ?_
        refine lv_iconst (v := 0) hx hb dX9_reach_26 (by decide +kernel) ?_
        refine lv_iconst (v := 1) hx hb dX9_reach_27 (by decide +kernel) ?_
        refine k_Si ⟨hx, hb, hml, hown, hts⟩ (c_X9_within l D cI cJ cO what 0 1) (va_cwS 3 hts gX9_reach_X9_within rfl rfl rfl (by decide +kernel) ⟨Nat.le_of_ble_eq_true rfl, Nat.le_of_ble_eq_true rfl⟩) hK hN hP hD hS hA [] rfl rfl rfl (ws' := [(h, oX9 r M L), ((r 5), .inl (cI, 9, .inl a5)), ((r 6), .inl (cI, 2, .inl a6)), ((r 12), .inl (cI, 3, .inl a12)), ((r 36), .inl (cJ, 1400, .inr (.inl a36))), ((r 37), .inl (cI, 1400, .inl a37))]) rfl rfl hl.1 rfl (Nat.le_of_ble_eq_true rfl) dX9_reach_28 ⟨Nat.le_refl _, Nat.le_refl _⟩ (fun H locs hP hD hS => ?_)
        refine lv_if_ne (tgt := 49) hx hb dX9_reach_31 (by decide) (fun c_4 => ?_) (fun c_4 => ?_)
        · skip
          refine lv_aload_n hx hb dX9_reach_49 rfl (lv_at hl 0 rfl) ?_
          refine lv_iload_n hx hb dX9_reach_50 rfl (lv_at hl 1 rfl) ?_
          refine lv_iload_n hx hb dX9_reach_51 rfl (lv_at hl 2 rfl) ?_
          refine lv_iload_n hx hb dX9_reach_52 rfl (lv_at hl 3 rfl) ?_
          obtain ⟨M_5, eM_5⟩ : ∃ q : Nat → Int32, q = ((sp_X9_goesAll M L a5 a6 a12 a36 a37 set may n).1) := ⟨_, rfl⟩
          obtain ⟨L_6, eL_6⟩ : ∃ q : Int64, q = ((sp_X9_goesAll M L a5 a6 a12 a36 a37 set may n).2.1) := ⟨_, rfl⟩
          obtain ⟨a_7, ea_7⟩ : ∃ q : Nat → Int32, q = ((sp_X9_goesAll M L a5 a6 a12 a36 a37 set may n).2.2.1) := ⟨_, rfl⟩
          obtain ⟨a_8, ea_8⟩ : ∃ q : Nat → Int64, q = ((sp_X9_goesAll M L a5 a6 a12 a36 a37 set may n).2.2.2.1) := ⟨_, rfl⟩
          obtain ⟨a_9, ea_9⟩ : ∃ q : Nat → Int32, q = ((sp_X9_goesAll M L a5 a6 a12 a36 a37 set may n).2.2.2.2) := ⟨_, rfl⟩
          refine k_Vv ⟨hx, hb, hml, hown, hts⟩ (c_X9_goesAll l D cI cJ cO h r M L a5 a6 a12 a36 a37 set may n (hsh ⟨c_1, c_2, c_3⟩) (hn0 ⟨c_1, c_2, c_3⟩) (hc1 ⟨c_1, c_2, c_3⟩) (hc2 ⟨c_1, c_2, c_3⟩)) (ci := 9) (q0 := 0) rfl rfl (cwV 3 hts gX9_reach_X9_goesAll rfl rfl rfl (by decide +kernel) ⟨Nat.le_of_ble_eq_true rfl, Nat.le_of_ble_eq_true rfl⟩) hK hN hP hD hS hA [0, 1, 2, 3, 4, 5] rfl rfl rfl (ws' := [(h, oX9 r M_5 L_6), ((r 5), .inl (cI, 9, .inl a5)), ((r 6), .inl (cI, 2, .inl a6)), ((r 12), .inl (cI, 3, .inl a_7)), ((r 36), .inl (cJ, 1400, .inr (.inl a_8))), ((r 37), .inl (cI, 1400, .inl a_9))]) (by rw [eM_5, eL_6, ea_7, ea_8, ea_9]; rfl) rfl hl.1 rfl (Nat.le_of_ble_eq_true rfl) dX9_reach_53 ⟨Nat.le_refl _, Nat.le_refl _⟩ (fun H locs hP hD hS => ?_)
          refine lv_iload hx hb dX9_reach_56 (lv_at hl 4 rfl) ?_
          refine lv_iconst (v := 2) hx hb dX9_reach_58 (by decide +kernel) ?_
          refine lv_icmp_ge (tgt := 79) hx hb dX9_reach_59 (by decide) (fun c_10 => ?_) (fun c_10 => ?_)
          · skip
            refine lv_bipush (v := (-9)) hx hb dX9_reach_79 (by decide +kernel) ?_
            refine lv_istore (lv' := [(5, .int (-9)), (0, .ref h), (1, .int set), (2, .int may), (3, .int n), (4, .int what)]) hx hb dX9_reach_81 hl (by decide) rfl (fun ls hl => ?_)
            refine lv_iconst (v := 0) hx hb dX9_reach_83 (by decide +kernel) ?_
            refine lv_istore (lv' := [(6, .int 0), (5, .int (-9)), (0, .ref h), (1, .int set), (2, .int may), (3, .int n), (4, .int what)]) hx hb dX9_reach_84 hl (by decide) rfl (fun ls hl => ?_)
            obtain ⟨fx_12, hfx_12⟩ : ∃ f : Nat → (Int32) → (Int32), f = (bd_X9_reach_86 what M_5 L_6 a_8 a_9) := ⟨_, rfl⟩
            have hB_x_12 : (M_5 38) = nI ((M_5 38).toNatClampNeg) := nI_self (by rw [eM_5]; exact hr0 ⟨c_1, c_2, c_3⟩)
            have hN_x_12 : (M_5 38).toNatClampNeg < 2 ^ 31 := clamp_lt _
            have Lx_12 : ∀ (nn i_11 : Nat) (x_12 : (Int32)), (M_5 38).toNatClampNeg + 1 ≤ i_11 + nn → i_11 ≤ (M_5 38).toNatClampNeg → x_12 = lp fx_12 i_11 (-9) → ∀ (H : Heap) (locs : List Loc), va_P D vwCl [(h, oX9 r M_5 L_6), ((r 5), .inl (cI, 9, .inl a5)), ((r 6), .inl (cI, 2, .inl a6)), ((r 12), .inl (cI, 3, .inl a_7)), ((r 36), .inl (cJ, 1400, .inr (.inl a_8))), ((r 37), .inl (cI, 1400, .inl a_9))] H → va_D A [(h, oX9 r M_5 L_6), ((r 5), .inl (cI, 9, .inl a5)), ((r 6), .inl (cI, 2, .inl a6)), ((r 12), .inl (cI, 3, .inl a_7)), ((r 36), .inl (cJ, 1400, .inr (.inl a_8))), ((r 37), .inl (cI, 1400, .inl a_9))] → va_S A s.heap H locs → ∀ ls : Array Slot, lv_has ls 8 [(0, .ref h), (4, .int what), (5, .int x_12), (6, .int (nI i_11))] → W p l e (RM 4) s m ([.ref h, .int set, .int may, .int n, .int what] : List Value).toArray below meth c H locs 0 0 Q (F0 m 86 ls []) := by
              intro nn_x_12
              induction nn_x_12 with
              | zero => intro i_11 x_12 h1 h2; exact absurd h1 (by omega)
              | succ nn_x_12 ih_x_12 =>
                intro i_11 x_12 hn_x_12 hi_i_11 ex_x_12 H locs hP hD hS ls hl
                refine lv_iload hx hb dX9_reach_86 (lv_at hl 3 rfl) ?_
                refine lv_aload_n hx hb dX9_reach_88 rfl (lv_at hl 0 rfl) ?_
                refine k_get hx hb hts hi9 hown hK hP 0 rfl rfl 38 (by decide) hf215 (.int (M_5 38)) rfl dX9_reach_89 ?_
                refine lv_icmp_ge (tgt := 165) hx hb dX9_reach_92 (by decide) (fun c_13 => ?_) (fun c_13 => ?_)
                · skip
                  have hq_x_12 : i_11 = (M_5 38).toNatClampNeg := k_eq hB_x_12 c_13 hi_i_11 hN_x_12
                  have ex_12 : x_12 = lp (bd_X9_reach_86 what M_5 L_6 a_8 a_9) ((M_5 38).toNatClampNeg) (-9) := by rw [ex_x_12, hfx_12, hq_x_12]
                  refine lv_iload hx hb dX9_reach_165 (lv_at hl 2 rfl) ?_
                  have hsp : sp_X9_reach M L a5 a6 a12 a36 a37 set may n what = (x_12, M_5, L_6, a_7, a_8, a_9) := sq_X9_reach_1 M L a5 a6 a12 a36 a37 set may n what M_5 L_6 a_7 a_8 a_9 x_12 eM_5 eL_6 ea_7 ea_8 ea_9 ex_12 c_1 c_2 c_3 c_4 c_10
                  exact hret _ _ _ _ _ (by rw [hsp]) rfl (by rw [hsp]; exact hP) hS dX9_reach_167
                · skip
                  have hlt_i_11 : i_11 < (M_5 38).toNatClampNeg := k_lt hB_x_12 c_13 hi_i_11 hN_x_12
                  refine lv_aload_n hx hb dX9_reach_95 rfl (lv_at hl 0 rfl) ?_
                  refine lv_aload_n hx hb dX9_reach_96 rfl (lv_at hl 0 rfl) ?_
                  refine k_get hx hb hts hi9 hown hK hP 0 rfl rfl 36 (by decide) hf59 (.ref (r 36)) rfl dX9_reach_97 ?_
                  refine lv_iload hx hb dX9_reach_100 (lv_at hl 3 rfl) ?_
                  refine k_lald hx hb hK hP 4 1 rfl rfl i_11 (nI_clamp (Nat.lt_trans hlt_i_11 (clamp_lt _))) (vp_in_nI (Nat.lt_of_lt_of_le hlt_i_11 (by rw [eM_5]; exact hr1 ⟨c_1, c_2, c_3⟩)) (by decide)) dX9_reach_102 ?_
                  refine k_Vi ⟨hx, hb, hml, hown, hts⟩ (c_X9_modeOf l D cI cJ cO h r M_5 L_6 (a_8 i_11)) (ci := 9) (q0 := 0) rfl rfl (cwV 1 hts gX9_reach_X9_modeOf rfl rfl rfl (by decide +kernel) ⟨Nat.le_of_ble_eq_true rfl, Nat.le_of_ble_eq_true rfl⟩) hK hN hP hD hS hA [0] rfl rfl rfl (ws' := [(h, oX9 r M_5 L_6), ((r 5), .inl (cI, 9, .inl a5)), ((r 6), .inl (cI, 2, .inl a6)), ((r 12), .inl (cI, 3, .inl a_7)), ((r 36), .inl (cJ, 1400, .inr (.inl a_8))), ((r 37), .inl (cI, 1400, .inl a_9))]) rfl rfl hl.1 rfl (Nat.le_of_ble_eq_true rfl) dX9_reach_103 ⟨Nat.le_refl _, Nat.le_refl _⟩ (fun H locs hP hD hS => ?_)
                  refine lv_iload hx hb dX9_reach_106 (lv_at hl 1 rfl) ?_
                  refine lv_bipush (v := 10) hx hb dX9_reach_108 (by decide +kernel) ?_
                  refine lv_isub hx hb dX9_reach_110 ?_
                  have J_15 : ∀ z_14 : Int32, z_14 = (if (sp_X9_modeOf M_5 L_6 (a_8 i_11)) = (what - 10) then 1 else 0) → ∀ (H : Heap) (locs : List Loc), va_P D vwCl [(h, oX9 r M_5 L_6), ((r 5), .inl (cI, 9, .inl a5)), ((r 6), .inl (cI, 2, .inl a6)), ((r 12), .inl (cI, 3, .inl a_7)), ((r 36), .inl (cJ, 1400, .inr (.inl a_8))), ((r 37), .inl (cI, 1400, .inl a_9))] H → va_D A [(h, oX9 r M_5 L_6), ((r 5), .inl (cI, 9, .inl a5)), ((r 6), .inl (cI, 2, .inl a6)), ((r 12), .inl (cI, 3, .inl a_7)), ((r 36), .inl (cJ, 1400, .inr (.inl a_8))), ((r 37), .inl (cI, 1400, .inl a_9))] → va_S A s.heap H locs → ∀ ls : Array Slot, lv_has ls 8 [(0, .ref h), (4, .int what), (5, .int x_12), (6, .int (nI i_11))] → W p l e (RM 4) s m ([.ref h, .int set, .int may, .int n, .int what] : List Value).toArray below meth c H locs 0 0 Q (F0 m 119 ls [.int z_14]) := by
                    intro z_14 ez_14 H locs hP hD hS ls hl
                    refine lv_istore (lv' := [(7, .int z_14), (0, .ref h), (4, .int what), (5, .int x_12), (6, .int (nI i_11))]) hx hb dX9_reach_119 hl (by decide) rfl (fun ls hl => ?_)
                    refine lv_iload hx hb dX9_reach_121 (lv_at hl 0 rfl) ?_
                    have J_17 : ∀ z_16 : Int32, z_16 = (if z_14 = 0 then x_12 else (if x_12 = (-9) then (a_9 i_11) else (if x_12 ≤ (a_9 i_11) then x_12 else (a_9 i_11)))) → ∀ (H : Heap) (locs : List Loc), va_P D vwCl [(h, oX9 r M_5 L_6), ((r 5), .inl (cI, 9, .inl a5)), ((r 6), .inl (cI, 2, .inl a6)), ((r 12), .inl (cI, 3, .inl a_7)), ((r 36), .inl (cJ, 1400, .inr (.inl a_8))), ((r 37), .inl (cI, 1400, .inl a_9))] H → va_D A [(h, oX9 r M_5 L_6), ((r 5), .inl (cI, 9, .inl a5)), ((r 6), .inl (cI, 2, .inl a6)), ((r 12), .inl (cI, 3, .inl a_7)), ((r 36), .inl (cJ, 1400, .inr (.inl a_8))), ((r 37), .inl (cI, 1400, .inl a_9))] → va_S A s.heap H locs → ∀ ls : Array Slot, lv_has ls 8 [(0, .ref h), (4, .int what), (6, .int (nI i_11))] → W p l e (RM 4) s m ([.ref h, .int set, .int may, .int n, .int what] : List Value).toArray below meth c H locs 0 0 Q (F0 m 157 ls [.int z_16]) := by
                      intro z_16 ez_16 H locs hP hD hS ls hl
                      refine lv_istore (lv' := [(5, .int z_16), (0, .ref h), (4, .int what), (6, .int (nI i_11))]) hx hb dX9_reach_157 hl (by decide) rfl (fun ls hl => ?_)
                      refine lv_iinc (v := (nI (i_11 + 1))) (lv' := [(6, .int (nI (i_11 + 1))), (5, .int z_16), (0, .ref h), (4, .int what)]) hx hb dX9_reach_159 hl (k := 3) rfl (nI_1 i_11) (by decide) rfl (fun ls hl => ?_)
                      refine lv_goto (tgt := 86) hx hb dX9_reach_162 (by decide) ?_
                      exact ih_x_12 (i_11 + 1) z_16 (by omega) (by omega) (by subst ez_16; subst ez_14; rw [show lp fx_12 (i_11 + 1) (-9) = fx_12 i_11 (lp fx_12 i_11 (-9)) from rfl, ← ex_x_12, hfx_12]; try (first | (rfl; done) | rfl)) _ _ hP hD hS _ (lv_sub hl [2, 3, 1, 0] rfl)
                    refine lv_if_eq (tgt := 155) hx hb dX9_reach_123 (by decide) (fun c_18 => ?_) (fun c_18 => ?_)
                    · skip
                      refine lv_iload hx hb dX9_reach_155 (lv_at hl 3 rfl) ?_
                      exact J_17 x_12 (by first | (simp only [if_pos c_18]; done) | rfl) _ _ hP hD hS _ (lv_sub hl [1, 2, 4] rfl)
                    · skip
                      refine lv_iload hx hb dX9_reach_126 (lv_at hl 3 rfl) ?_
                      refine lv_bipush (v := (-9)) hx hb dX9_reach_128 (by decide +kernel) ?_
                      refine lv_icmp_eq (tgt := 145) hx hb dX9_reach_130 (by decide) (fun c_19 => ?_) (fun c_19 => ?_)
                      · skip
                        refine lv_aload_n hx hb dX9_reach_145 rfl (lv_at hl 1 rfl) ?_
                        refine k_get hx hb hts hi9 hown hK hP 0 rfl rfl 37 (by decide) hf63 (.ref (r 37)) rfl dX9_reach_146 ?_
                        refine lv_iload hx hb dX9_reach_149 (lv_at hl 4 rfl) ?_
                        refine k_iald hx hb hK hP 5 0 rfl rfl i_11 (nI_clamp (Nat.lt_trans hlt_i_11 (clamp_lt _))) (vp_in_nI (Nat.lt_of_lt_of_le hlt_i_11 (by rw [eM_5]; exact hr1 ⟨c_1, c_2, c_3⟩)) (by decide)) dX9_reach_151 ?_
                        refine lv_goto (tgt := 157) hx hb dX9_reach_152 (by decide) ?_
                        exact J_17 (a_9 i_11) (by first | (simp only [if_neg c_18, if_pos c_19]; done) | rfl) _ _ hP hD hS _ (lv_sub hl [1, 2, 4] rfl)
                      · skip
                        refine lv_aload_n hx hb dX9_reach_133 rfl (lv_at hl 1 rfl) ?_
                        refine k_get hx hb hts hi9 hown hK hP 0 rfl rfl 37 (by decide) hf63 (.ref (r 37)) rfl dX9_reach_134 ?_
                        refine lv_iload hx hb dX9_reach_137 (lv_at hl 4 rfl) ?_
                        refine k_iald hx hb hK hP 5 0 rfl rfl i_11 (nI_clamp (Nat.lt_trans hlt_i_11 (clamp_lt _))) (vp_in_nI (Nat.lt_of_lt_of_le hlt_i_11 (by rw [eM_5]; exact hr1 ⟨c_1, c_2, c_3⟩)) (by decide)) dX9_reach_139 ?_
                        refine lv_iload hx hb dX9_reach_140 (lv_at hl 3 rfl) ?_
                        refine lv_icmp_ge (tgt := 155) hx hb dX9_reach_142 (by decide) (fun c_20 => ?_) (fun c_20 => ?_)
                        · skip
                          refine lv_iload hx hb dX9_reach_155 (lv_at hl 3 rfl) ?_
                          exact J_17 x_12 (by first | (simp only [if_neg c_18, if_neg c_19, if_pos c_20]; done) | rfl) _ _ hP hD hS _ (lv_sub hl [1, 2, 4] rfl)
                        · skip
                          refine lv_aload_n hx hb dX9_reach_145 rfl (lv_at hl 1 rfl) ?_
                          refine k_get hx hb hts hi9 hown hK hP 0 rfl rfl 37 (by decide) hf63 (.ref (r 37)) rfl dX9_reach_146 ?_
                          refine lv_iload hx hb dX9_reach_149 (lv_at hl 4 rfl) ?_
                          refine k_iald hx hb hK hP 5 0 rfl rfl i_11 (nI_clamp (Nat.lt_trans hlt_i_11 (clamp_lt _))) (vp_in_nI (Nat.lt_of_lt_of_le hlt_i_11 (by rw [eM_5]; exact hr1 ⟨c_1, c_2, c_3⟩)) (by decide)) dX9_reach_151 ?_
                          refine lv_goto (tgt := 157) hx hb dX9_reach_152 (by decide) ?_
                          exact J_17 (a_9 i_11) (by first | (simp only [if_neg c_18, if_neg c_19, if_neg c_20]; done) | rfl) _ _ hP hD hS _ (lv_sub hl [1, 2, 4] rfl)
                  refine lv_icmp_ne (tgt := 118) hx hb dX9_reach_111 (by decide) (fun c_21 => ?_) (fun c_21 => ?_)
                  · skip
                    refine lv_iconst (v := 0) hx hb dX9_reach_118 (by decide +kernel) ?_
                    exact J_15 0 (by first | (simp only [if_neg c_21]; done) | rfl) _ _ hP hD hS _ (lv_sub hl [0, 1, 2, 3] rfl)
                  · skip
                    refine lv_iconst (v := 1) hx hb dX9_reach_114 (by decide +kernel) ?_
                    refine lv_goto (tgt := 119) hx hb dX9_reach_115 (by decide) ?_
                    exact J_15 1 (by first | (simp only [if_pos c_21]; done) | rfl) _ _ hP hD hS _ (lv_sub hl [0, 1, 2, 3] rfl)
            exact Lx_12 ((M_5 38).toNatClampNeg + 1) 0 (-9) (by omega) (Nat.zero_le _) rfl _ _ hP hD hS _ (lv_sub hl [2, 6, 1, 0] rfl)
          · skip
            refine lv_iload hx hb dX9_reach_62 (lv_at hl 4 rfl) ?_
            have J_23 : ∀ z_22 : Int32, z_22 = (if what = 0 then (M_5 38) else (M_5 39)) → ∀ (H : Heap) (locs : List Loc), va_P D vwCl [(h, oX9 r M_5 L_6), ((r 5), .inl (cI, 9, .inl a5)), ((r 6), .inl (cI, 2, .inl a6)), ((r 12), .inl (cI, 3, .inl a_7)), ((r 36), .inl (cJ, 1400, .inr (.inl a_8))), ((r 37), .inl (cI, 1400, .inl a_9))] H → va_D A [(h, oX9 r M_5 L_6), ((r 5), .inl (cI, 9, .inl a5)), ((r 6), .inl (cI, 2, .inl a6)), ((r 12), .inl (cI, 3, .inl a_7)), ((r 36), .inl (cJ, 1400, .inr (.inl a_8))), ((r 37), .inl (cI, 1400, .inl a_9))] → va_S A s.heap H locs → ∀ ls : Array Slot, lv_has ls 8 [] → W p l e (RM 4) s m ([.ref h, .int set, .int may, .int n, .int what] : List Value).toArray below meth c H locs 0 0 Q (F0 m 78 ls [.int z_22]) := by
              intro z_22 ez_22 H locs hP hD hS ls hl
              have hsp : sp_X9_reach M L a5 a6 a12 a36 a37 set may n what = (z_22, M_5, L_6, a_7, a_8, a_9) := sq_X9_reach_2 M L a5 a6 a12 a36 a37 set may n what M_5 L_6 a_7 a_8 a_9 z_22 eM_5 eL_6 ea_7 ea_8 ea_9 ez_22 c_1 c_2 c_3 c_4 c_10
              exact hret _ _ _ _ _ (by rw [hsp]) rfl (by rw [hsp]; exact hP) hS dX9_reach_78
            refine lv_if_ne (tgt := 74) hx hb dX9_reach_64 (by decide) (fun c_24 => ?_) (fun c_24 => ?_)
            · skip
              refine lv_aload_n hx hb dX9_reach_74 rfl (lv_at hl 0 rfl) ?_
              refine k_get hx hb hts hi9 hown hK hP 0 rfl rfl 39 (by decide) hf218 (.int (M_5 39)) rfl dX9_reach_75 ?_
              exact J_23 (M_5 39) (by first | (simp only [if_neg c_24]; done) | rfl) _ _ hP hD hS _ (lv_sub hl [] rfl)
            · skip
              refine lv_aload_n hx hb dX9_reach_67 rfl (lv_at hl 0 rfl) ?_
              refine k_get hx hb hts hi9 hown hK hP 0 rfl rfl 38 (by decide) hf215 (.int (M_5 38)) rfl dX9_reach_68 ?_
              refine lv_goto (tgt := 78) hx hb dX9_reach_71 (by decide) ?_
              exact J_23 (M_5 38) (by first | (simp only [if_pos c_24]; done) | rfl) _ _ hP hD hS _ (lv_sub hl [] rfl)
        · skip
          refine lv_iload hx hb dX9_reach_34 (lv_at hl 4 rfl) ?_
          refine lv_bipush (v := 10) hx hb dX9_reach_36 (by decide +kernel) ?_
          refine lv_bipush (v := 14) hx hb dX9_reach_38 (by decide +kernel) ?_
          refine k_Si ⟨hx, hb, hml, hown, hts⟩ (c_X9_within l D cI cJ cO what 10 14) (va_cwS 3 hts gX9_reach_X9_within rfl rfl rfl (by decide +kernel) ⟨Nat.le_of_ble_eq_true rfl, Nat.le_of_ble_eq_true rfl⟩) hK hN hP hD hS hA [] rfl rfl rfl (ws' := [(h, oX9 r M L), ((r 5), .inl (cI, 9, .inl a5)), ((r 6), .inl (cI, 2, .inl a6)), ((r 12), .inl (cI, 3, .inl a12)), ((r 36), .inl (cJ, 1400, .inr (.inl a36))), ((r 37), .inl (cI, 1400, .inl a37))]) rfl rfl hl.1 rfl (Nat.le_of_ble_eq_true rfl) dX9_reach_40 ⟨Nat.le_refl _, Nat.le_refl _⟩ (fun H locs hP hD hS => ?_)
          refine lv_if_ne (tgt := 49) hx hb dX9_reach_43 (by decide) (fun c_25 => ?_) (fun c_25 => ?_)
          · skip
            refine lv_aload_n hx hb dX9_reach_49 rfl (lv_at hl 0 rfl) ?_
            refine lv_iload_n hx hb dX9_reach_50 rfl (lv_at hl 1 rfl) ?_
            refine lv_iload_n hx hb dX9_reach_51 rfl (lv_at hl 2 rfl) ?_
            refine lv_iload_n hx hb dX9_reach_52 rfl (lv_at hl 3 rfl) ?_
            obtain ⟨M_26, eM_26⟩ : ∃ q : Nat → Int32, q = ((sp_X9_goesAll M L a5 a6 a12 a36 a37 set may n).1) := ⟨_, rfl⟩
            obtain ⟨L_27, eL_27⟩ : ∃ q : Int64, q = ((sp_X9_goesAll M L a5 a6 a12 a36 a37 set may n).2.1) := ⟨_, rfl⟩
            obtain ⟨a_28, ea_28⟩ : ∃ q : Nat → Int32, q = ((sp_X9_goesAll M L a5 a6 a12 a36 a37 set may n).2.2.1) := ⟨_, rfl⟩
            obtain ⟨a_29, ea_29⟩ : ∃ q : Nat → Int64, q = ((sp_X9_goesAll M L a5 a6 a12 a36 a37 set may n).2.2.2.1) := ⟨_, rfl⟩
            obtain ⟨a_30, ea_30⟩ : ∃ q : Nat → Int32, q = ((sp_X9_goesAll M L a5 a6 a12 a36 a37 set may n).2.2.2.2) := ⟨_, rfl⟩
            refine k_Vv ⟨hx, hb, hml, hown, hts⟩ (c_X9_goesAll l D cI cJ cO h r M L a5 a6 a12 a36 a37 set may n (hsh ⟨c_1, c_2, c_3⟩) (hn0 ⟨c_1, c_2, c_3⟩) (hc1 ⟨c_1, c_2, c_3⟩) (hc2 ⟨c_1, c_2, c_3⟩)) (ci := 9) (q0 := 0) rfl rfl (cwV 3 hts gX9_reach_X9_goesAll rfl rfl rfl (by decide +kernel) ⟨Nat.le_of_ble_eq_true rfl, Nat.le_of_ble_eq_true rfl⟩) hK hN hP hD hS hA [0, 1, 2, 3, 4, 5] rfl rfl rfl (ws' := [(h, oX9 r M_26 L_27), ((r 5), .inl (cI, 9, .inl a5)), ((r 6), .inl (cI, 2, .inl a6)), ((r 12), .inl (cI, 3, .inl a_28)), ((r 36), .inl (cJ, 1400, .inr (.inl a_29))), ((r 37), .inl (cI, 1400, .inl a_30))]) (by rw [eM_26, eL_27, ea_28, ea_29, ea_30]; rfl) rfl hl.1 rfl (Nat.le_of_ble_eq_true rfl) dX9_reach_53 ⟨Nat.le_refl _, Nat.le_refl _⟩ (fun H locs hP hD hS => ?_)
            refine lv_iload hx hb dX9_reach_56 (lv_at hl 4 rfl) ?_
            refine lv_iconst (v := 2) hx hb dX9_reach_58 (by decide +kernel) ?_
            refine lv_icmp_ge (tgt := 79) hx hb dX9_reach_59 (by decide) (fun c_31 => ?_) (fun c_31 => ?_)
            · skip
              refine lv_bipush (v := (-9)) hx hb dX9_reach_79 (by decide +kernel) ?_
              refine lv_istore (lv' := [(5, .int (-9)), (0, .ref h), (1, .int set), (2, .int may), (3, .int n), (4, .int what)]) hx hb dX9_reach_81 hl (by decide) rfl (fun ls hl => ?_)
              refine lv_iconst (v := 0) hx hb dX9_reach_83 (by decide +kernel) ?_
              refine lv_istore (lv' := [(6, .int 0), (5, .int (-9)), (0, .ref h), (1, .int set), (2, .int may), (3, .int n), (4, .int what)]) hx hb dX9_reach_84 hl (by decide) rfl (fun ls hl => ?_)
              obtain ⟨fx_33, hfx_33⟩ : ∃ f : Nat → (Int32) → (Int32), f = (bd_X9_reach_86 what M_26 L_27 a_29 a_30) := ⟨_, rfl⟩
              have hB_x_33 : (M_26 38) = nI ((M_26 38).toNatClampNeg) := nI_self (by rw [eM_26]; exact hr0 ⟨c_1, c_2, c_3⟩)
              have hN_x_33 : (M_26 38).toNatClampNeg < 2 ^ 31 := clamp_lt _
              have Lx_33 : ∀ (nn i_32 : Nat) (x_33 : (Int32)), (M_26 38).toNatClampNeg + 1 ≤ i_32 + nn → i_32 ≤ (M_26 38).toNatClampNeg → x_33 = lp fx_33 i_32 (-9) → ∀ (H : Heap) (locs : List Loc), va_P D vwCl [(h, oX9 r M_26 L_27), ((r 5), .inl (cI, 9, .inl a5)), ((r 6), .inl (cI, 2, .inl a6)), ((r 12), .inl (cI, 3, .inl a_28)), ((r 36), .inl (cJ, 1400, .inr (.inl a_29))), ((r 37), .inl (cI, 1400, .inl a_30))] H → va_D A [(h, oX9 r M_26 L_27), ((r 5), .inl (cI, 9, .inl a5)), ((r 6), .inl (cI, 2, .inl a6)), ((r 12), .inl (cI, 3, .inl a_28)), ((r 36), .inl (cJ, 1400, .inr (.inl a_29))), ((r 37), .inl (cI, 1400, .inl a_30))] → va_S A s.heap H locs → ∀ ls : Array Slot, lv_has ls 8 [(0, .ref h), (4, .int what), (5, .int x_33), (6, .int (nI i_32))] → W p l e (RM 4) s m ([.ref h, .int set, .int may, .int n, .int what] : List Value).toArray below meth c H locs 0 0 Q (F0 m 86 ls []) := by
                intro nn_x_33
                induction nn_x_33 with
                | zero => intro i_32 x_33 h1 h2; exact absurd h1 (by omega)
                | succ nn_x_33 ih_x_33 =>
                  intro i_32 x_33 hn_x_33 hi_i_32 ex_x_33 H locs hP hD hS ls hl
                  refine lv_iload hx hb dX9_reach_86 (lv_at hl 3 rfl) ?_
                  refine lv_aload_n hx hb dX9_reach_88 rfl (lv_at hl 0 rfl) ?_
                  refine k_get hx hb hts hi9 hown hK hP 0 rfl rfl 38 (by decide) hf215 (.int (M_26 38)) rfl dX9_reach_89 ?_
                  refine lv_icmp_ge (tgt := 165) hx hb dX9_reach_92 (by decide) (fun c_34 => ?_) (fun c_34 => ?_)
                  · skip
                    have hq_x_33 : i_32 = (M_26 38).toNatClampNeg := k_eq hB_x_33 c_34 hi_i_32 hN_x_33
                    have ex_33 : x_33 = lp (bd_X9_reach_86 what M_26 L_27 a_29 a_30) ((M_26 38).toNatClampNeg) (-9) := by rw [ex_x_33, hfx_33, hq_x_33]
                    refine lv_iload hx hb dX9_reach_165 (lv_at hl 2 rfl) ?_
                    have hsp : sp_X9_reach M L a5 a6 a12 a36 a37 set may n what = (x_33, M_26, L_27, a_28, a_29, a_30) := sq_X9_reach_3 M L a5 a6 a12 a36 a37 set may n what M_26 L_27 a_28 a_29 a_30 x_33 eM_26 eL_27 ea_28 ea_29 ea_30 ex_33 c_1 c_2 c_3 c_4 c_25 c_31
                    exact hret _ _ _ _ _ (by rw [hsp]) rfl (by rw [hsp]; exact hP) hS dX9_reach_167
                  · skip
                    have hlt_i_32 : i_32 < (M_26 38).toNatClampNeg := k_lt hB_x_33 c_34 hi_i_32 hN_x_33
                    refine lv_aload_n hx hb dX9_reach_95 rfl (lv_at hl 0 rfl) ?_
                    refine lv_aload_n hx hb dX9_reach_96 rfl (lv_at hl 0 rfl) ?_
                    refine k_get hx hb hts hi9 hown hK hP 0 rfl rfl 36 (by decide) hf59 (.ref (r 36)) rfl dX9_reach_97 ?_
                    refine lv_iload hx hb dX9_reach_100 (lv_at hl 3 rfl) ?_
                    refine k_lald hx hb hK hP 4 1 rfl rfl i_32 (nI_clamp (Nat.lt_trans hlt_i_32 (clamp_lt _))) (vp_in_nI (Nat.lt_of_lt_of_le hlt_i_32 (by rw [eM_26]; exact hr1 ⟨c_1, c_2, c_3⟩)) (by decide)) dX9_reach_102 ?_
                    refine k_Vi ⟨hx, hb, hml, hown, hts⟩ (c_X9_modeOf l D cI cJ cO h r M_26 L_27 (a_29 i_32)) (ci := 9) (q0 := 0) rfl rfl (cwV 1 hts gX9_reach_X9_modeOf rfl rfl rfl (by decide +kernel) ⟨Nat.le_of_ble_eq_true rfl, Nat.le_of_ble_eq_true rfl⟩) hK hN hP hD hS hA [0] rfl rfl rfl (ws' := [(h, oX9 r M_26 L_27), ((r 5), .inl (cI, 9, .inl a5)), ((r 6), .inl (cI, 2, .inl a6)), ((r 12), .inl (cI, 3, .inl a_28)), ((r 36), .inl (cJ, 1400, .inr (.inl a_29))), ((r 37), .inl (cI, 1400, .inl a_30))]) rfl rfl hl.1 rfl (Nat.le_of_ble_eq_true rfl) dX9_reach_103 ⟨Nat.le_refl _, Nat.le_refl _⟩ (fun H locs hP hD hS => ?_)
                    refine lv_iload hx hb dX9_reach_106 (lv_at hl 1 rfl) ?_
                    refine lv_bipush (v := 10) hx hb dX9_reach_108 (by decide +kernel) ?_
                    refine lv_isub hx hb dX9_reach_110 ?_
                    have J_36 : ∀ z_35 : Int32, z_35 = (if (sp_X9_modeOf M_26 L_27 (a_29 i_32)) = (what - 10) then 1 else 0) → ∀ (H : Heap) (locs : List Loc), va_P D vwCl [(h, oX9 r M_26 L_27), ((r 5), .inl (cI, 9, .inl a5)), ((r 6), .inl (cI, 2, .inl a6)), ((r 12), .inl (cI, 3, .inl a_28)), ((r 36), .inl (cJ, 1400, .inr (.inl a_29))), ((r 37), .inl (cI, 1400, .inl a_30))] H → va_D A [(h, oX9 r M_26 L_27), ((r 5), .inl (cI, 9, .inl a5)), ((r 6), .inl (cI, 2, .inl a6)), ((r 12), .inl (cI, 3, .inl a_28)), ((r 36), .inl (cJ, 1400, .inr (.inl a_29))), ((r 37), .inl (cI, 1400, .inl a_30))] → va_S A s.heap H locs → ∀ ls : Array Slot, lv_has ls 8 [(0, .ref h), (4, .int what), (5, .int x_33), (6, .int (nI i_32))] → W p l e (RM 4) s m ([.ref h, .int set, .int may, .int n, .int what] : List Value).toArray below meth c H locs 0 0 Q (F0 m 119 ls [.int z_35]) := by
                      intro z_35 ez_35 H locs hP hD hS ls hl
                      refine lv_istore (lv' := [(7, .int z_35), (0, .ref h), (4, .int what), (5, .int x_33), (6, .int (nI i_32))]) hx hb dX9_reach_119 hl (by decide) rfl (fun ls hl => ?_)
                      refine lv_iload hx hb dX9_reach_121 (lv_at hl 0 rfl) ?_
                      have J_38 : ∀ z_37 : Int32, z_37 = (if z_35 = 0 then x_33 else (if x_33 = (-9) then (a_30 i_32) else (if x_33 ≤ (a_30 i_32) then x_33 else (a_30 i_32)))) → ∀ (H : Heap) (locs : List Loc), va_P D vwCl [(h, oX9 r M_26 L_27), ((r 5), .inl (cI, 9, .inl a5)), ((r 6), .inl (cI, 2, .inl a6)), ((r 12), .inl (cI, 3, .inl a_28)), ((r 36), .inl (cJ, 1400, .inr (.inl a_29))), ((r 37), .inl (cI, 1400, .inl a_30))] H → va_D A [(h, oX9 r M_26 L_27), ((r 5), .inl (cI, 9, .inl a5)), ((r 6), .inl (cI, 2, .inl a6)), ((r 12), .inl (cI, 3, .inl a_28)), ((r 36), .inl (cJ, 1400, .inr (.inl a_29))), ((r 37), .inl (cI, 1400, .inl a_30))] → va_S A s.heap H locs → ∀ ls : Array Slot, lv_has ls 8 [(0, .ref h), (4, .int what), (6, .int (nI i_32))] → W p l e (RM 4) s m ([.ref h, .int set, .int may, .int n, .int what] : List Value).toArray below meth c H locs 0 0 Q (F0 m 157 ls [.int z_37]) := by
                        intro z_37 ez_37 H locs hP hD hS ls hl
                        refine lv_istore (lv' := [(5, .int z_37), (0, .ref h), (4, .int what), (6, .int (nI i_32))]) hx hb dX9_reach_157 hl (by decide) rfl (fun ls hl => ?_)
                        refine lv_iinc (v := (nI (i_32 + 1))) (lv' := [(6, .int (nI (i_32 + 1))), (5, .int z_37), (0, .ref h), (4, .int what)]) hx hb dX9_reach_159 hl (k := 3) rfl (nI_1 i_32) (by decide) rfl (fun ls hl => ?_)
                        refine lv_goto (tgt := 86) hx hb dX9_reach_162 (by decide) ?_
                        exact ih_x_33 (i_32 + 1) z_37 (by omega) (by omega) (by subst ez_37; subst ez_35; rw [show lp fx_33 (i_32 + 1) (-9) = fx_33 i_32 (lp fx_33 i_32 (-9)) from rfl, ← ex_x_33, hfx_33]; try (first | (rfl; done) | rfl)) _ _ hP hD hS _ (lv_sub hl [2, 3, 1, 0] rfl)
                      refine lv_if_eq (tgt := 155) hx hb dX9_reach_123 (by decide) (fun c_39 => ?_) (fun c_39 => ?_)
                      · skip
                        refine lv_iload hx hb dX9_reach_155 (lv_at hl 3 rfl) ?_
                        exact J_38 x_33 (by first | (simp only [if_pos c_39]; done) | rfl) _ _ hP hD hS _ (lv_sub hl [1, 2, 4] rfl)
                      · skip
                        refine lv_iload hx hb dX9_reach_126 (lv_at hl 3 rfl) ?_
                        refine lv_bipush (v := (-9)) hx hb dX9_reach_128 (by decide +kernel) ?_
                        refine lv_icmp_eq (tgt := 145) hx hb dX9_reach_130 (by decide) (fun c_40 => ?_) (fun c_40 => ?_)
                        · skip
                          refine lv_aload_n hx hb dX9_reach_145 rfl (lv_at hl 1 rfl) ?_
                          refine k_get hx hb hts hi9 hown hK hP 0 rfl rfl 37 (by decide) hf63 (.ref (r 37)) rfl dX9_reach_146 ?_
                          refine lv_iload hx hb dX9_reach_149 (lv_at hl 4 rfl) ?_
                          refine k_iald hx hb hK hP 5 0 rfl rfl i_32 (nI_clamp (Nat.lt_trans hlt_i_32 (clamp_lt _))) (vp_in_nI (Nat.lt_of_lt_of_le hlt_i_32 (by rw [eM_26]; exact hr1 ⟨c_1, c_2, c_3⟩)) (by decide)) dX9_reach_151 ?_
                          refine lv_goto (tgt := 157) hx hb dX9_reach_152 (by decide) ?_
                          exact J_38 (a_30 i_32) (by first | (simp only [if_neg c_39, if_pos c_40]; done) | rfl) _ _ hP hD hS _ (lv_sub hl [1, 2, 4] rfl)
                        · skip
                          refine lv_aload_n hx hb dX9_reach_133 rfl (lv_at hl 1 rfl) ?_
                          refine k_get hx hb hts hi9 hown hK hP 0 rfl rfl 37 (by decide) hf63 (.ref (r 37)) rfl dX9_reach_134 ?_
                          refine lv_iload hx hb dX9_reach_137 (lv_at hl 4 rfl) ?_
                          refine k_iald hx hb hK hP 5 0 rfl rfl i_32 (nI_clamp (Nat.lt_trans hlt_i_32 (clamp_lt _))) (vp_in_nI (Nat.lt_of_lt_of_le hlt_i_32 (by rw [eM_26]; exact hr1 ⟨c_1, c_2, c_3⟩)) (by decide)) dX9_reach_139 ?_
                          refine lv_iload hx hb dX9_reach_140 (lv_at hl 3 rfl) ?_
                          refine lv_icmp_ge (tgt := 155) hx hb dX9_reach_142 (by decide) (fun c_41 => ?_) (fun c_41 => ?_)
                          · skip
                            refine lv_iload hx hb dX9_reach_155 (lv_at hl 3 rfl) ?_
                            exact J_38 x_33 (by first | (simp only [if_neg c_39, if_neg c_40, if_pos c_41]; done) | rfl) _ _ hP hD hS _ (lv_sub hl [1, 2, 4] rfl)
                          · skip
                            refine lv_aload_n hx hb dX9_reach_145 rfl (lv_at hl 1 rfl) ?_
                            refine k_get hx hb hts hi9 hown hK hP 0 rfl rfl 37 (by decide) hf63 (.ref (r 37)) rfl dX9_reach_146 ?_
                            refine lv_iload hx hb dX9_reach_149 (lv_at hl 4 rfl) ?_
                            refine k_iald hx hb hK hP 5 0 rfl rfl i_32 (nI_clamp (Nat.lt_trans hlt_i_32 (clamp_lt _))) (vp_in_nI (Nat.lt_of_lt_of_le hlt_i_32 (by rw [eM_26]; exact hr1 ⟨c_1, c_2, c_3⟩)) (by decide)) dX9_reach_151 ?_
                            refine lv_goto (tgt := 157) hx hb dX9_reach_152 (by decide) ?_
                            exact J_38 (a_30 i_32) (by first | (simp only [if_neg c_39, if_neg c_40, if_neg c_41]; done) | rfl) _ _ hP hD hS _ (lv_sub hl [1, 2, 4] rfl)
                    refine lv_icmp_ne (tgt := 118) hx hb dX9_reach_111 (by decide) (fun c_42 => ?_) (fun c_42 => ?_)
                    · skip
                      refine lv_iconst (v := 0) hx hb dX9_reach_118 (by decide +kernel) ?_
                      exact J_36 0 (by first | (simp only [if_neg c_42]; done) | rfl) _ _ hP hD hS _ (lv_sub hl [0, 1, 2, 3] rfl)
                    · skip
                      refine lv_iconst (v := 1) hx hb dX9_reach_114 (by decide +kernel) ?_
                      refine lv_goto (tgt := 119) hx hb dX9_reach_115 (by decide) ?_
                      exact J_36 1 (by first | (simp only [if_pos c_42]; done) | rfl) _ _ hP hD hS _ (lv_sub hl [0, 1, 2, 3] rfl)
              exact Lx_33 ((M_26 38).toNatClampNeg + 1) 0 (-9) (by omega) (Nat.zero_le _) rfl _ _ hP hD hS _ (lv_sub hl [2, 6, 1, 0] rfl)
            · skip
              refine lv_iload hx hb dX9_reach_62 (lv_at hl 4 rfl) ?_
              have J_44 : ∀ z_43 : Int32, z_43 = (if what = 0 then (M_26 38) else (M_26 39)) → ∀ (H : Heap) (locs : List Loc), va_P D vwCl [(h, oX9 r M_26 L_27), ((r 5), .inl (cI, 9, .inl a5)), ((r 6), .inl (cI, 2, .inl a6)), ((r 12), .inl (cI, 3, .inl a_28)), ((r 36), .inl (cJ, 1400, .inr (.inl a_29))), ((r 37), .inl (cI, 1400, .inl a_30))] H → va_D A [(h, oX9 r M_26 L_27), ((r 5), .inl (cI, 9, .inl a5)), ((r 6), .inl (cI, 2, .inl a6)), ((r 12), .inl (cI, 3, .inl a_28)), ((r 36), .inl (cJ, 1400, .inr (.inl a_29))), ((r 37), .inl (cI, 1400, .inl a_30))] → va_S A s.heap H locs → ∀ ls : Array Slot, lv_has ls 8 [] → W p l e (RM 4) s m ([.ref h, .int set, .int may, .int n, .int what] : List Value).toArray below meth c H locs 0 0 Q (F0 m 78 ls [.int z_43]) := by
                intro z_43 ez_43 H locs hP hD hS ls hl
                have hsp : sp_X9_reach M L a5 a6 a12 a36 a37 set may n what = (z_43, M_26, L_27, a_28, a_29, a_30) := sq_X9_reach_4 M L a5 a6 a12 a36 a37 set may n what M_26 L_27 a_28 a_29 a_30 z_43 eM_26 eL_27 ea_28 ea_29 ea_30 ez_43 c_1 c_2 c_3 c_4 c_25 c_31
                exact hret _ _ _ _ _ (by rw [hsp]) rfl (by rw [hsp]; exact hP) hS dX9_reach_78
              refine lv_if_ne (tgt := 74) hx hb dX9_reach_64 (by decide) (fun c_45 => ?_) (fun c_45 => ?_)
              · skip
                refine lv_aload_n hx hb dX9_reach_74 rfl (lv_at hl 0 rfl) ?_
                refine k_get hx hb hts hi9 hown hK hP 0 rfl rfl 39 (by decide) hf218 (.int (M_26 39)) rfl dX9_reach_75 ?_
                exact J_44 (M_26 39) (by first | (simp only [if_neg c_45]; done) | rfl) _ _ hP hD hS _ (lv_sub hl [] rfl)
              · skip
                refine lv_aload_n hx hb dX9_reach_67 rfl (lv_at hl 0 rfl) ?_
                refine k_get hx hb hts hi9 hown hK hP 0 rfl rfl 38 (by decide) hf215 (.int (M_26 38)) rfl dX9_reach_68 ?_
                refine lv_goto (tgt := 78) hx hb dX9_reach_71 (by decide) ?_
                exact J_44 (M_26 38) (by first | (simp only [if_pos c_45]; done) | rfl) _ _ hP hD hS _ (lv_sub hl [] rfl)
          · skip
            refine lv_bipush (v := (-2)) hx hb dX9_reach_46 (by decide +kernel) ?_
            have hsp : sp_X9_reach M L a5 a6 a12 a36 a37 set may n what = ((-2), M, L, a12, a36, a37) := by simp only [sp_X9_reach, if_neg c_1, if_neg c_2, if_neg c_3, if_pos c_4, if_pos c_25]
            exact hret _ _ _ _ _ (by rw [hsp]) rfl (by rw [hsp]; exact hP) hS dX9_reach_48
