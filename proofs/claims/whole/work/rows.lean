section
-- ===== PART A: goes FIRST, ahead of the names: the tables' words, and 'selects' of the private methods out of them =====
/-- a private method of a class that the tables say can be made, by its rows of tables_1 -/
def lw_okq (q : MethodName × Nat) : Prop := (q.1.cls ≠ "java/lang/invoke/MethodHandle" ∧ q.1.cls ≠ "java/lang/invoke/VarHandle") ∧ Cond.instantiable q.1.cls q.2 ∈ tables_1 ∧ Cond.privateMethod q.1 ∈ tables_1 ∧ Cond.instanceMethod q.1 ∈ tables_1
theorem lw_p0 : lw_okq (⟨"PressGuard", "advanceNoted", "(I)V"⟩, 10) := ⟨⟨by decide +kernel, by decide +kernel⟩, List.mem_of_getElem? (i := 15) (by decide +kernel), List.mem_of_getElem? (i := 369) (by decide +kernel), List.mem_of_getElem? (i := 370) (by decide +kernel)⟩
theorem lw_p1 : lw_okq (⟨"PressGuard$Press", "moveMuting", "(I)V"⟩, 18) := ⟨⟨by decide +kernel, by decide +kernel⟩, List.mem_of_getElem? (i := 71) (by decide +kernel), List.mem_of_getElem? (i := 394) (by decide +kernel), List.mem_of_getElem? (i := 395) (by decide +kernel)⟩
theorem lw_p2 : lw_okq (⟨"PressGuard$Press", "mutingThen", "(ZZ)I"⟩, 18) := ⟨⟨by decide +kernel, by decide +kernel⟩, List.mem_of_getElem? (i := 71) (by decide +kernel), List.mem_of_getElem? (i := 399) (by decide +kernel), List.mem_of_getElem? (i := 400) (by decide +kernel)⟩
theorem lw_p3 : lw_okq (⟨"PressGuard$Press", "isMuted", "()Z"⟩, 18) := ⟨⟨by decide +kernel, by decide +kernel⟩, List.mem_of_getElem? (i := 71) (by decide +kernel), List.mem_of_getElem? (i := 403) (by decide +kernel), List.mem_of_getElem? (i := 404) (by decide +kernel)⟩
theorem lw_p4 : lw_okq (⟨"PressGuard$Press", "moveHands", "(I)V"⟩, 18) := ⟨⟨by decide +kernel, by decide +kernel⟩, List.mem_of_getElem? (i := 71) (by decide +kernel), List.mem_of_getElem? (i := 407) (by decide +kernel), List.mem_of_getElem? (i := 408) (by decide +kernel)⟩
theorem lw_p5 : lw_okq (⟨"PressGuard$Press", "handsThen", "(II)I"⟩, 18) := ⟨⟨by decide +kernel, by decide +kernel⟩, List.mem_of_getElem? (i := 71) (by decide +kernel), List.mem_of_getElem? (i := 411) (by decide +kernel), List.mem_of_getElem? (i := 412) (by decide +kernel)⟩
theorem lw_p6 : lw_okq (⟨"PressGuard$Press", "changeMode", "(IZZ)V"⟩, 18) := ⟨⟨by decide +kernel, by decide +kernel⟩, List.mem_of_getElem? (i := 71) (by decide +kernel), List.mem_of_getElem? (i := 422) (by decide +kernel), List.mem_of_getElem? (i := 423) (by decide +kernel)⟩
theorem lw_p7 : lw_okq (⟨"PressGuard$Press", "leastCause", "()I"⟩, 18) := ⟨⟨by decide +kernel, by decide +kernel⟩, List.mem_of_getElem? (i := 71) (by decide +kernel), List.mem_of_getElem? (i := 426) (by decide +kernel), List.mem_of_getElem? (i := 427) (by decide +kernel)⟩
theorem lw_p8 : lw_okq (⟨"PressGuard$Press", "moveSlide", "(I)V"⟩, 18) := ⟨⟨by decide +kernel, by decide +kernel⟩, List.mem_of_getElem? (i := 71) (by decide +kernel), List.mem_of_getElem? (i := 430) (by decide +kernel), List.mem_of_getElem? (i := 431) (by decide +kernel)⟩
theorem lw_p9 : lw_okq (⟨"PressGuard$Press", "arriveAtTop", "()V"⟩, 18) := ⟨⟨by decide +kernel, by decide +kernel⟩, List.mem_of_getElem? (i := 71) (by decide +kernel), List.mem_of_getElem? (i := 438) (by decide +kernel), List.mem_of_getElem? (i := 439) (by decide +kernel)⟩
theorem lw_p10 : lw_okq (⟨"PressGuard", "sumUpTrials", "()V"⟩, 10) := ⟨⟨by decide +kernel, by decide +kernel⟩, List.mem_of_getElem? (i := 15) (by decide +kernel), List.mem_of_getElem? (i := 561) (by decide +kernel), List.mem_of_getElem? (i := 562) (by decide +kernel)⟩
theorem lw_p11 : lw_okq (⟨"PressGuard", "sumUpTrialsOf", "(II)V"⟩, 10) := ⟨⟨by decide +kernel, by decide +kernel⟩, List.mem_of_getElem? (i := 15) (by decide +kernel), List.mem_of_getElem? (i := 569) (by decide +kernel), List.mem_of_getElem? (i := 570) (by decide +kernel)⟩
theorem lw_p12 : lw_okq (⟨"PressGuard$Search", "chooseSets", "(II)V"⟩, 7) := ⟨⟨by decide +kernel, by decide +kernel⟩, List.mem_of_getElem? (i := 246) (by decide +kernel), List.mem_of_getElem? (i := 596) (by decide +kernel), List.mem_of_getElem? (i := 597) (by decide +kernel)⟩
theorem lw_p13 : lw_okq (⟨"PressGuard$Search", "meet", "(LPressGuard$Press;I)V"⟩, 7) := ⟨⟨by decide +kernel, by decide +kernel⟩, List.mem_of_getElem? (i := 246) (by decide +kernel), List.mem_of_getElem? (i := 607) (by decide +kernel), List.mem_of_getElem? (i := 608) (by decide +kernel)⟩
theorem lw_p14 : lw_okq (⟨"PressGuard$Search", "addState", "(J)V"⟩, 7) := ⟨⟨by decide +kernel, by decide +kernel⟩, List.mem_of_getElem? (i := 246) (by decide +kernel), List.mem_of_getElem? (i := 621) (by decide +kernel), List.mem_of_getElem? (i := 622) (by decide +kernel)⟩
theorem lw_p15 : lw_okq (⟨"PressGuardModel", "begins", "()V"⟩, 40) := ⟨⟨by decide +kernel, by decide +kernel⟩, List.mem_of_getElem? (i := 640) (by decide +kernel), List.mem_of_getElem? (i := 774) (by decide +kernel), List.mem_of_getElem? (i := 775) (by decide +kernel)⟩
def lw_privs_1 : List (MethodName × Nat) := [(⟨"PressGuard", "advanceNoted", "(I)V"⟩, 10), (⟨"PressGuard$Press", "moveMuting", "(I)V"⟩, 18), (⟨"PressGuard$Press", "mutingThen", "(ZZ)I"⟩, 18), (⟨"PressGuard$Press", "isMuted", "()Z"⟩, 18), (⟨"PressGuard$Press", "moveHands", "(I)V"⟩, 18), (⟨"PressGuard$Press", "handsThen", "(II)I"⟩, 18), (⟨"PressGuard$Press", "changeMode", "(IZZ)V"⟩, 18), (⟨"PressGuard$Press", "leastCause", "()I"⟩, 18), (⟨"PressGuard$Press", "moveSlide", "(I)V"⟩, 18), (⟨"PressGuard$Press", "arriveAtTop", "()V"⟩, 18), (⟨"PressGuard", "sumUpTrials", "()V"⟩, 10), (⟨"PressGuard", "sumUpTrialsOf", "(II)V"⟩, 10), (⟨"PressGuard$Search", "chooseSets", "(II)V"⟩, 7), (⟨"PressGuard$Search", "meet", "(LPressGuard$Press;I)V"⟩, 7), (⟨"PressGuard$Search", "addState", "(J)V"⟩, 7), (⟨"PressGuardModel", "begins", "()V"⟩, 40)]
theorem lw_r1 : ∀ q ∈ lw_privs_1, lw_okq q := List.forall_mem_cons.mpr ⟨lw_p0, List.forall_mem_cons.mpr ⟨lw_p1, List.forall_mem_cons.mpr ⟨lw_p2, List.forall_mem_cons.mpr ⟨lw_p3, List.forall_mem_cons.mpr ⟨lw_p4, List.forall_mem_cons.mpr ⟨lw_p5, List.forall_mem_cons.mpr ⟨lw_p6, List.forall_mem_cons.mpr ⟨lw_p7, List.forall_mem_cons.mpr ⟨lw_p8, List.forall_mem_cons.mpr ⟨lw_p9, List.forall_mem_cons.mpr ⟨lw_p10, List.forall_mem_cons.mpr ⟨lw_p11, List.forall_mem_cons.mpr ⟨lw_p12, List.forall_mem_cons.mpr ⟨lw_p13, List.forall_mem_cons.mpr ⟨lw_p14, List.forall_mem_cons.mpr ⟨lw_p15, fun _ h => absurd h List.not_mem_nil⟩⟩⟩⟩⟩⟩⟩⟩⟩⟩⟩⟩⟩⟩⟩⟩
theorem lw_p16 : lw_okq (⟨"PressGuardModel", "becomes", "(JI)V"⟩, 40) := ⟨⟨by decide +kernel, by decide +kernel⟩, List.mem_of_getElem? (i := 640) (by decide +kernel), List.mem_of_getElem? (i := 778) (by decide +kernel), List.mem_of_getElem? (i := 779) (by decide +kernel)⟩
theorem lw_p17 : lw_okq (⟨"PressGuardModel", "takes", "(J)I"⟩, 40) := ⟨⟨by decide +kernel, by decide +kernel⟩, List.mem_of_getElem? (i := 640) (by decide +kernel), List.mem_of_getElem? (i := 783) (by decide +kernel), List.mem_of_getElem? (i := 784) (by decide +kernel)⟩
theorem lw_p18 : lw_okq (⟨"PressGuardModel", "tickBy", "(I)V"⟩, 40) := ⟨⟨by decide +kernel, by decide +kernel⟩, List.mem_of_getElem? (i := 640) (by decide +kernel), List.mem_of_getElem? (i := 810) (by decide +kernel), List.mem_of_getElem? (i := 811) (by decide +kernel)⟩
theorem lw_p19 : lw_okq (⟨"PressGuardModel", "seen", "(I)I"⟩, 40) := ⟨⟨by decide +kernel, by decide +kernel⟩, List.mem_of_getElem? (i := 640) (by decide +kernel), List.mem_of_getElem? (i := 814) (by decide +kernel), List.mem_of_getElem? (i := 815) (by decide +kernel)⟩
theorem lw_p20 : lw_okq (⟨"PressGuardModel", "handsBy", "(I)I"⟩, 40) := ⟨⟨by decide +kernel, by decide +kernel⟩, List.mem_of_getElem? (i := 640) (by decide +kernel), List.mem_of_getElem? (i := 830) (by decide +kernel), List.mem_of_getElem? (i := 831) (by decide +kernel)⟩
theorem lw_p21 : lw_okq (⟨"PressGuardModel", "valveAt", "(I)I"⟩, 40) := ⟨⟨by decide +kernel, by decide +kernel⟩, List.mem_of_getElem? (i := 640) (by decide +kernel), List.mem_of_getElem? (i := 834) (by decide +kernel), List.mem_of_getElem? (i := 835) (by decide +kernel)⟩
theorem lw_p22 : lw_okq (⟨"PressGuardModel", "goesOn", "(ZZZ)V"⟩, 40) := ⟨⟨by decide +kernel, by decide +kernel⟩, List.mem_of_getElem? (i := 640) (by decide +kernel), List.mem_of_getElem? (i := 838) (by decide +kernel), List.mem_of_getElem? (i := 839) (by decide +kernel)⟩
theorem lw_p23 : lw_okq (⟨"PressGuardModel", "leastCause", "(I)I"⟩, 40) := ⟨⟨by decide +kernel, by decide +kernel⟩, List.mem_of_getElem? (i := 640) (by decide +kernel), List.mem_of_getElem? (i := 842) (by decide +kernel), List.mem_of_getElem? (i := 843) (by decide +kernel)⟩
theorem lw_p24 : lw_okq (⟨"PressGuardModel", "slides", "(IZ)V"⟩, 40) := ⟨⟨by decide +kernel, by decide +kernel⟩, List.mem_of_getElem? (i := 640) (by decide +kernel), List.mem_of_getElem? (i := 846) (by decide +kernel), List.mem_of_getElem? (i := 847) (by decide +kernel)⟩
theorem lw_p25 : lw_okq (⟨"PressGuardModel", "notes", "(I)V"⟩, 40) := ⟨⟨by decide +kernel, by decide +kernel⟩, List.mem_of_getElem? (i := 640) (by decide +kernel), List.mem_of_getElem? (i := 850) (by decide +kernel), List.mem_of_getElem? (i := 851) (by decide +kernel)⟩
theorem lw_p26 : lw_okq (⟨"PressGuardModel", "stateOf", "()J"⟩, 40) := ⟨⟨by decide +kernel, by decide +kernel⟩, List.mem_of_getElem? (i := 640) (by decide +kernel), List.mem_of_getElem? (i := 867) (by decide +kernel), List.mem_of_getElem? (i := 868) (by decide +kernel)⟩
theorem lw_p27 : lw_okq (⟨"PressGuardModel", "tries", "(III)V"⟩, 40) := ⟨⟨by decide +kernel, by decide +kernel⟩, List.mem_of_getElem? (i := 640) (by decide +kernel), List.mem_of_getElem? (i := 903) (by decide +kernel), List.mem_of_getElem? (i := 904) (by decide +kernel)⟩
theorem lw_p28 : lw_okq (⟨"PressGuardModel", "keeps", "()V"⟩, 40) := ⟨⟨by decide +kernel, by decide +kernel⟩, List.mem_of_getElem? (i := 640) (by decide +kernel), List.mem_of_getElem? (i := 907) (by decide +kernel), List.mem_of_getElem? (i := 908) (by decide +kernel)⟩
theorem lw_p29 : lw_okq (⟨"PressGuardModel", "restores", "()V"⟩, 40) := ⟨⟨by decide +kernel, by decide +kernel⟩, List.mem_of_getElem? (i := 640) (by decide +kernel), List.mem_of_getElem? (i := 911) (by decide +kernel), List.mem_of_getElem? (i := 912) (by decide +kernel)⟩
theorem lw_p30 : lw_okq (⟨"PressGuardModel", "isMay", "(I)Z"⟩, 40) := ⟨⟨by decide +kernel, by decide +kernel⟩, List.mem_of_getElem? (i := 640) (by decide +kernel), List.mem_of_getElem? (i := 923) (by decide +kernel), List.mem_of_getElem? (i := 924) (by decide +kernel)⟩
theorem lw_p31 : lw_okq (⟨"PressGuardModel", "goesAll", "(III)V"⟩, 40) := ⟨⟨by decide +kernel, by decide +kernel⟩, List.mem_of_getElem? (i := 640) (by decide +kernel), List.mem_of_getElem? (i := 927) (by decide +kernel), List.mem_of_getElem? (i := 928) (by decide +kernel)⟩
def lw_privs_2 : List (MethodName × Nat) := [(⟨"PressGuardModel", "becomes", "(JI)V"⟩, 40), (⟨"PressGuardModel", "takes", "(J)I"⟩, 40), (⟨"PressGuardModel", "tickBy", "(I)V"⟩, 40), (⟨"PressGuardModel", "seen", "(I)I"⟩, 40), (⟨"PressGuardModel", "handsBy", "(I)I"⟩, 40), (⟨"PressGuardModel", "valveAt", "(I)I"⟩, 40), (⟨"PressGuardModel", "goesOn", "(ZZZ)V"⟩, 40), (⟨"PressGuardModel", "leastCause", "(I)I"⟩, 40), (⟨"PressGuardModel", "slides", "(IZ)V"⟩, 40), (⟨"PressGuardModel", "notes", "(I)V"⟩, 40), (⟨"PressGuardModel", "stateOf", "()J"⟩, 40), (⟨"PressGuardModel", "tries", "(III)V"⟩, 40), (⟨"PressGuardModel", "keeps", "()V"⟩, 40), (⟨"PressGuardModel", "restores", "()V"⟩, 40), (⟨"PressGuardModel", "isMay", "(I)Z"⟩, 40), (⟨"PressGuardModel", "goesAll", "(III)V"⟩, 40)]
theorem lw_r2 : ∀ q ∈ lw_privs_2, lw_okq q := List.forall_mem_cons.mpr ⟨lw_p16, List.forall_mem_cons.mpr ⟨lw_p17, List.forall_mem_cons.mpr ⟨lw_p18, List.forall_mem_cons.mpr ⟨lw_p19, List.forall_mem_cons.mpr ⟨lw_p20, List.forall_mem_cons.mpr ⟨lw_p21, List.forall_mem_cons.mpr ⟨lw_p22, List.forall_mem_cons.mpr ⟨lw_p23, List.forall_mem_cons.mpr ⟨lw_p24, List.forall_mem_cons.mpr ⟨lw_p25, List.forall_mem_cons.mpr ⟨lw_p26, List.forall_mem_cons.mpr ⟨lw_p27, List.forall_mem_cons.mpr ⟨lw_p28, List.forall_mem_cons.mpr ⟨lw_p29, List.forall_mem_cons.mpr ⟨lw_p30, List.forall_mem_cons.mpr ⟨lw_p31, fun _ h => absurd h List.not_mem_nil⟩⟩⟩⟩⟩⟩⟩⟩⟩⟩⟩⟩⟩⟩⟩⟩
theorem lw_p32 : lw_okq (⟨"PressGuardModel", "comes", "(I)V"⟩, 40) := ⟨⟨by decide +kernel, by decide +kernel⟩, List.mem_of_getElem? (i := 640) (by decide +kernel), List.mem_of_getElem? (i := 931) (by decide +kernel), List.mem_of_getElem? (i := 932) (by decide +kernel)⟩
theorem lw_p33 : lw_okq (⟨"PressGuardModel", "modeOf", "(J)I"⟩, 40) := ⟨⟨by decide +kernel, by decide +kernel⟩, List.mem_of_getElem? (i := 640) (by decide +kernel), List.mem_of_getElem? (i := 938) (by decide +kernel), List.mem_of_getElem? (i := 939) (by decide +kernel)⟩
def lw_privs_3 : List (MethodName × Nat) := [(⟨"PressGuardModel", "comes", "(I)V"⟩, 40), (⟨"PressGuardModel", "modeOf", "(J)I"⟩, 40)]
theorem lw_r3 : ∀ q ∈ lw_privs_3, lw_okq q := List.forall_mem_cons.mpr ⟨lw_p32, List.forall_mem_cons.mpr ⟨lw_p33, fun _ h => absurd h List.not_mem_nil⟩⟩
def lw_privs : List (MethodName × Nat) := lw_privs_1 ++ (lw_privs_2 ++ (lw_privs_3))
def lw_tbl : List Cond := k2_sels lw_privs ++ tables_1
theorem lw_privs_ok : ∀ q ∈ lw_privs, lw_okq q := by
  show ∀ q ∈ lw_privs_1 ++ (lw_privs_2 ++ (lw_privs_3)), lw_okq q
  exact List.forall_mem_append.mpr ⟨lw_r1, List.forall_mem_append.mpr ⟨lw_r2, lw_r3⟩⟩
end
section
/-! ===== BEGIN words of one list among another's, by their places ===== -/
theorem goodIn_r {big : List Cond} (ws : List Cond) (ps : List Nat) (hp : ws = ps.filterMap (fun i => big[i]?)) (h : ws.all goodWord = true) : GoodIn big ws := by
  intro w hw
  have h1 := List.all_eq_true.mp h w hw
  rw [hp] at hw
  obtain ⟨i, -, hi⟩ := List.mem_filterMap.mp hw
  have hm : w ∈ big := by first | exact List.mem_of_getElem? hi | exact List.getElem?_mem hi
  exact ⟨hm, good_of_word h1⟩
theorem goodIn_app {big a b : List Cond} (ha : GoodIn big a) (hb : GoodIn big b) : GoodIn big (a ++ b) := fun w h => (List.mem_append.mp h).elim (ha w) (hb w)
theorem goodIn_ca {big a b : List Cond} {c : Cond} (ha : GoodIn big (c :: a)) (hb : GoodIn big b) : GoodIn big (c :: (a ++ b)) := fun w h => (List.mem_cons.mp h).elim (fun e => ha w (List.mem_cons.mpr (Or.inl e))) (fun h => (List.mem_append.mp h).elim (fun h => ha w (List.mem_cons.mpr (Or.inr h))) (hb w))
theorem goodIn_sub {big ws : List Cond} (hm : ∀ w ∈ ws, w ∈ big) (h : ws.all goodWord = true) : GoodIn big ws := fun w hw => ⟨hm w hw, good_of_word (List.all_eq_true.mp h w hw)⟩
/-! ===== END ===== -/

/-! ===== BEGIN printed: names, fields, word lists, decode rows ===== -/
def RX0 : String := "PressGuard$Faults"
def TX0 : u_T := fun k => match k with
  | 0 => ("PressGuard$Faults", "stuckOff", "I", false)
  | 1 => ("PressGuard$Faults", "stuckOn", "I", false)
  | 2 => ("PressGuard$Faults", "firstValve", "I", false)
  | _ => ("PressGuard$Faults", "secondValve", "I", false)
def tyX0 : Nat → FieldType := fun k => match k with
  | 0 => .int
  | 1 => .int
  | 2 => .int
  | _ => .int
abbrev wsX00 : List Cond := u_ws RX0 TX0 4
theorem nmX0 : ∀ a, a < 4 → ∀ b, b < 4 → a ≠ b → (TX0 a).2.1 ≠ (TX0 b).2.1 := by decide +kernel
theorem tyX0_ok : ∀ k, k < 4 → parseFieldDescriptor (TX0 k).2.2.1 = some (tyX0 k) := by decide +kernel
abbrev cX0_init : ByteArray := prog_2_method_1_code
def yX0_init : MethodName := ⟨RX0, "<init>", "()V"⟩
abbrev cX0_clear : ByteArray := prog_2_method_2_code
def yX0_clear : MethodName := ⟨RX0, "clear", "()V"⟩
abbrev cX0_inputStuckAt : ByteArray := prog_2_method_3_code
def yX0_inputStuckAt : MethodName := ⟨RX0, "inputStuckAt", "(I)I"⟩
abbrev cX0_setInput : ByteArray := prog_2_method_4_code
def yX0_setInput : MethodName := ⟨RX0, "setInput", "(II)V"⟩
abbrev cX0_valveStuckAt : ByteArray := prog_2_method_5_code
def yX0_valveStuckAt : MethodName := ⟨RX0, "valveStuckAt", "(I)I"⟩
abbrev cX0_setValve : ByteArray := prog_2_method_6_code
def yX0_setValve : MethodName := ⟨RX0, "setValve", "(II)V"⟩
abbrev cX0_valvesStuck : ByteArray := prog_2_method_7_code
def yX0_valvesStuck : MethodName := ⟨RX0, "valvesStuck", "()I"⟩
abbrev cX0_seenOf : ByteArray := prog_2_method_8_code
def yX0_seenOf : MethodName := ⟨RX0, "seenOf", "(I)I"⟩
abbrev cX0_valvesObey : ByteArray := prog_2_method_9_code
def yX0_valvesObey : MethodName := ⟨RX0, "valvesObey", "(I)Z"⟩
abbrev cX0_bothOpen : ByteArray := prog_2_method_10_code
def yX0_bothOpen : MethodName := ⟨RX0, "bothOpen", "(I)Z"⟩
abbrev cX0_valveIs : ByteArray := prog_2_method_11_code
def yX0_valveIs : MethodName := ⟨RX0, "valveIs", "(II)I"⟩
def RX1 : String := "PressGuard$Notes"
def TX1 : u_T := fun k => match k with
  | 0 => ("PressGuard$Notes", "lockTable", "[I", true)
  | 1 => ("PressGuard$Notes", "causeOrder", "[I", true)
  | 2 => ("PressGuard$Notes", "behind", "[I", true)
  | 3 => ("PressGuard$Notes", "causesKnown", "I", false)
  | 4 => ("PressGuard$Notes", "lockPlaces", "I", false)
  | 5 => ("PressGuard$Notes", "lockCount", "I", false)
  | _ => ("PressGuard$Notes", "tickCount", "I", false)
def tyX1 : Nat → FieldType := fun k => match k with
  | 0 => .array .int
  | 1 => .array .int
  | 2 => .array .int
  | 3 => .int
  | 4 => .int
  | 5 => .int
  | _ => .int
abbrev wsX10 : List Cond := u_ws RX1 TX1 7
theorem nmX1 : ∀ a, a < 7 → ∀ b, b < 7 → a ≠ b → (TX1 a).2.1 ≠ (TX1 b).2.1 := by decide +kernel
theorem tyX1_ok : ∀ k, k < 7 → parseFieldDescriptor (TX1 k).2.2.1 = some (tyX1 k) := by decide +kernel
abbrev cX1_init : ByteArray := prog_3_method_1_code
def yX1_init : MethodName := ⟨RX1, "<init>", "()V"⟩
abbrev cX1_clear : ByteArray := prog_3_method_2_code
def yX1_clear : MethodName := ⟨RX1, "clear", "()V"⟩
abbrev cX1_addTick : ByteArray := prog_3_method_3_code
def yX1_addTick : MethodName := ⟨RX1, "addTick", "(II)V"⟩
abbrev cX1_addLock : ByteArray := prog_3_method_4_code
def yX1_addLock : MethodName := ⟨RX1, "addLock", "(II)V"⟩
abbrev cX1_locksAt : ByteArray := prog_3_method_5_code
def yX1_locksAt : MethodName := ⟨RX1, "locksAt", "(II)I"⟩
abbrev cX1_locksBy : ByteArray := prog_3_method_6_code
def yX1_locksBy : MethodName := ⟨RX1, "locksBy", "(I)I"⟩
abbrev cX1_causeInOrder : ByteArray := prog_3_method_7_code
def yX1_causeInOrder : MethodName := ⟨RX1, "causeInOrder", "(I)I"⟩
abbrev cX1_modesBehind : ByteArray := prog_3_method_8_code
def yX1_modesBehind : MethodName := ⟨RX1, "modesBehind", "(I)I"⟩
def RX2 : String := "PressGuard$Press"
def TX2 : u_T := fun k => match k with
  | 0 => ("PressGuard$Press", "settings", "LPressGuard$Settings;", true)
  | 1 => ("PressGuard$Press", "faults", "LPressGuard$Faults;", true)
  | 2 => ("PressGuard$Press", "mode", "I", false)
  | 3 => ("PressGuard$Press", "hands", "I", false)
  | 4 => ("PressGuard$Press", "since", "I", false)
  | 5 => ("PressGuard$Press", "muting", "I", false)
  | 6 => ("PressGuard$Press", "mutedFor", "I", false)
  | 7 => ("PressGuard$Press", "leftApart", "I", false)
  | 8 => ("PressGuard$Press", "rightApart", "I", false)
  | 9 => ("PressGuard$Press", "curtainApart", "I", false)
  | 10 => ("PressGuard$Press", "unlike", "I", false)
  | 11 => ("PressGuard$Press", "command", "I", false)
  | 12 => ("PressGuard$Press", "position", "I", false)
  | 13 => ("PressGuard$Press", "brake", "I", false)
  | 14 => ("PressGuard$Press", "resetSeen", "I", false)
  | 15 => ("PressGuard$Press", "lockedBy", "I", false)
  | 16 => ("PressGuard$Press", "dangers", "I", false)
  | _ => ("PressGuard$Press", "rounds", "I", false)
def tyX2 : Nat → FieldType := fun k => match k with
  | 0 => .object "PressGuard$Settings"
  | 1 => .object "PressGuard$Faults"
  | 2 => .int
  | 3 => .int
  | 4 => .int
  | 5 => .int
  | 6 => .int
  | 7 => .int
  | 8 => .int
  | 9 => .int
  | 10 => .int
  | 11 => .int
  | 12 => .int
  | 13 => .int
  | 14 => .int
  | 15 => .int
  | 16 => .int
  | _ => .int
abbrev wsX20 : List Cond := u_ws RX2 TX2 18
theorem nmX2 : ∀ a, a < 18 → ∀ b, b < 18 → a ≠ b → (TX2 a).2.1 ≠ (TX2 b).2.1 := by decide +kernel
theorem tyX2_ok : ∀ k, k < 18 → parseFieldDescriptor (TX2 k).2.2.1 = some (tyX2 k) := by decide +kernel
abbrev cX2_init : ByteArray := prog_4_method_1_code
def yX2_init : MethodName := ⟨RX2, "<init>", "(LPressGuard$Settings;LPressGuard$Faults;)V"⟩
abbrev cX2_begin : ByteArray := prog_4_method_2_code
def yX2_begin : MethodName := ⟨RX2, "begin", "()V"⟩
abbrev cX2_copyFrom : ByteArray := prog_4_method_3_code
def yX2_copyFrom : MethodName := ⟨RX2, "copyFrom", "(LPressGuard$Press;)V"⟩
abbrev cX2_part : ByteArray := prog_4_method_4_code
def yX2_part : MethodName := ⟨RX2, "part", "(I)I"⟩
abbrev cX2_stateNumber : ByteArray := prog_4_method_5_code
def yX2_stateNumber : MethodName := ⟨RX2, "stateNumber", "()J"⟩
abbrev cX2_advance : ByteArray := prog_4_method_6_code
def yX2_advance : MethodName := ⟨RX2, "advance", "(I)V"⟩
abbrev cX2_apartThen : ByteArray := prog_4_method_7_code
def yX2_apartThen : MethodName := ⟨RX2, "apartThen", "(III)I"⟩
abbrev cX2_oneMore : ByteArray := prog_4_method_8_code
def yX2_oneMore : MethodName := ⟨RX2, "oneMore", "(I)I"⟩
abbrev cX2_isMuted : ByteArray := prog_4_method_9_code
def yX2_isMuted : MethodName := ⟨RX2, "isMuted", "()Z"⟩
abbrev cX2_moveMuting : ByteArray := prog_4_method_10_code
def yX2_moveMuting : MethodName := ⟨RX2, "moveMuting", "(I)V"⟩
abbrev cX2_mutingThen : ByteArray := prog_4_method_11_code
def yX2_mutingThen : MethodName := ⟨RX2, "mutingThen", "(ZZ)I"⟩
abbrev cX2_moveHands : ByteArray := prog_4_method_12_code
def yX2_moveHands : MethodName := ⟨RX2, "moveHands", "(I)V"⟩
abbrev cX2_handsThen : ByteArray := prog_4_method_13_code
def yX2_handsThen : MethodName := ⟨RX2, "handsThen", "(II)I"⟩
abbrev cX2_leastCause : ByteArray := prog_4_method_14_code
def yX2_leastCause : MethodName := ⟨RX2, "leastCause", "()I"⟩
abbrev cX2_changeMode : ByteArray := prog_4_method_15_code
def yX2_changeMode : MethodName := ⟨RX2, "changeMode", "(IZZ)V"⟩
abbrev cX2_moveSlide : ByteArray := prog_4_method_16_code
def yX2_moveSlide : MethodName := ⟨RX2, "moveSlide", "(I)V"⟩
abbrev cX2_arriveAtTop : ByteArray := prog_4_method_17_code
def yX2_arriveAtTop : MethodName := ⟨RX2, "arriveAtTop", "()V"⟩
def RX3 : String := "PressGuard$Script"
def TX3 : u_T := fun k => match k with
  | 0 => ("PressGuard$Script", "sets", "[I", true)
  | _ => ("PressGuard$Script", "count", "I", false)
def tyX3 : Nat → FieldType := fun k => match k with
  | 0 => .array .int
  | _ => .int
abbrev wsX30 : List Cond := u_ws RX3 TX3 2
theorem nmX3 : ∀ a, a < 2 → ∀ b, b < 2 → a ≠ b → (TX3 a).2.1 ≠ (TX3 b).2.1 := by decide +kernel
theorem tyX3_ok : ∀ k, k < 2 → parseFieldDescriptor (TX3 k).2.2.1 = some (tyX3 k) := by decide +kernel
abbrev cX3_init : ByteArray := prog_5_method_1_code
def yX3_init : MethodName := ⟨RX3, "<init>", "()V"⟩
abbrev cX3_append : ByteArray := prog_5_method_2_code
def yX3_append : MethodName := ⟨RX3, "append", "(I)V"⟩
abbrev cX3_setAt : ByteArray := prog_5_method_3_code
def yX3_setAt : MethodName := ⟨RX3, "setAt", "(I)I"⟩
def RX4 : String := "PressGuard$Search"
def TX4 : u_T := fun k => match k with
  | 0 => ("PressGuard$Search", "path", "[LPressGuard$Press;", true)
  | 1 => ("PressGuard$Search", "table", "[J", true)
  | 2 => ("PressGuard$Search", "fewest", "[I", true)
  | 3 => ("PressGuard$Search", "choices", "[I", true)
  | 4 => ("PressGuard$Search", "choiceCount", "I", false)
  | 5 => ("PressGuard$Search", "states", "I", false)
  | _ => ("PressGuard$Search", "mostDangers", "I", false)
def tyX4 : Nat → FieldType := fun k => match k with
  | 0 => .array (.object "PressGuard$Press")
  | 1 => .array .long
  | 2 => .array .int
  | 3 => .array .int
  | 4 => .int
  | 5 => .int
  | _ => .int
abbrev wsX40 : List Cond := u_ws RX4 TX4 7
theorem nmX4 : ∀ a, a < 7 → ∀ b, b < 7 → a ≠ b → (TX4 a).2.1 ≠ (TX4 b).2.1 := by decide +kernel
theorem tyX4_ok : ∀ k, k < 7 → parseFieldDescriptor (TX4 k).2.2.1 = some (tyX4 k) := by decide +kernel
abbrev cX4_init : ByteArray := prog_6_method_1_code
def yX4_init : MethodName := ⟨RX4, "<init>", "(LPressGuard$Settings;LPressGuard$Faults;)V"⟩
abbrev cX4_run : ByteArray := prog_6_method_2_code
def yX4_run : MethodName := ⟨RX4, "run", "(LPressGuard$Press;III)V"⟩
abbrev cX4_part : ByteArray := prog_6_method_3_code
def yX4_part : MethodName := ⟨RX4, "part", "(I)I"⟩
abbrev cX4_chooseSets : ByteArray := prog_6_method_4_code
def yX4_chooseSets : MethodName := ⟨RX4, "chooseSets", "(II)V"⟩
abbrev cX4_goOn : ByteArray := prog_6_method_5_code
def yX4_goOn : MethodName := ⟨RX4, "goOn", "(LPressGuard$Search;II)V"⟩
abbrev cX4_meet : ByteArray := prog_6_method_6_code
def yX4_meet : MethodName := ⟨RX4, "meet", "(LPressGuard$Press;I)V"⟩
abbrev cX4_addState : ByteArray := prog_6_method_7_code
def yX4_addState : MethodName := ⟨RX4, "addState", "(J)V"⟩
def RX5 : String := "PressGuard$Settings"
def TX5 : u_T := fun k => match k with
  | 0 => ("PressGuard$Settings", "patience", "I", false)
  | 1 => ("PressGuard$Settings", "span", "I", false)
  | 2 => ("PressGuard$Settings", "limit", "I", false)
  | 3 => ("PressGuard$Settings", "overrun", "I", false)
  | _ => ("PressGuard$Settings", "bottom", "I", false)
def tyX5 : Nat → FieldType := fun k => match k with
  | 0 => .int
  | 1 => .int
  | 2 => .int
  | 3 => .int
  | _ => .int
abbrev wsX50 : List Cond := u_ws RX5 TX5 5
theorem nmX5 : ∀ a, a < 5 → ∀ b, b < 5 → a ≠ b → (TX5 a).2.1 ≠ (TX5 b).2.1 := by decide +kernel
theorem tyX5_ok : ∀ k, k < 5 → parseFieldDescriptor (TX5 k).2.2.1 = some (tyX5 k) := by decide +kernel
abbrev cX5_init : ByteArray := prog_7_method_1_code
def yX5_init : MethodName := ⟨RX5, "<init>", "()V"⟩
abbrev cX5_become : ByteArray := prog_7_method_2_code
def yX5_become : MethodName := ⟨RX5, "become", "(IIIII)V"⟩
abbrev cX5_part : ByteArray := prog_7_method_3_code
def yX5_part : MethodName := ⟨RX5, "part", "(I)I"⟩
def RX6 : String := "PressGuard$Trial"
def TX6 : u_T := fun k => match k with
  | 0 => ("PressGuard$Trial", "faults", "LPressGuard$Faults;", true)
  | 1 => ("PressGuard$Trial", "press", "LPressGuard$Press;", true)
  | 2 => ("PressGuard$Trial", "firstLock", "I", false)
  | _ => ("PressGuard$Trial", "firstCause", "I", false)
def tyX6 : Nat → FieldType := fun k => match k with
  | 0 => .object "PressGuard$Faults"
  | 1 => .object "PressGuard$Press"
  | 2 => .int
  | _ => .int
abbrev wsX60 : List Cond := u_ws RX6 TX6 4
theorem nmX6 : ∀ a, a < 4 → ∀ b, b < 4 → a ≠ b → (TX6 a).2.1 ≠ (TX6 b).2.1 := by decide +kernel
theorem tyX6_ok : ∀ k, k < 4 → parseFieldDescriptor (TX6 k).2.2.1 = some (tyX6 k) := by decide +kernel
abbrev cX6_init : ByteArray := prog_8_method_1_code
def yX6_init : MethodName := ⟨RX6, "<init>", "(LPressGuard$Settings;)V"⟩
abbrev cX6_run : ByteArray := prog_8_method_2_code
def yX6_run : MethodName := ⟨RX6, "run", "(LPressGuard$Script;III)V"⟩
abbrev cX6_part : ByteArray := prog_8_method_3_code
def yX6_part : MethodName := ⟨RX6, "part", "(I)I"⟩
def RX7 : String := "PressGuard$TrialSums"
def TX7 : u_T := fun k => match k with
  | 0 => ("PressGuard$TrialSums", "soundRounds", "I", false)
  | 1 => ("PressGuard$TrialSums", "count", "I", false)
  | 2 => ("PressGuard$TrialSums", "dangerous", "I", false)
  | 3 => ("PressGuard$TrialSums", "everLocked", "I", false)
  | 4 => ("PressGuard$TrialSums", "longestToLock", "I", false)
  | 5 => ("PressGuard$TrialSums", "mostDangers", "I", false)
  | _ => ("PressGuard$TrialSums", "fewerRounds", "I", false)
def tyX7 : Nat → FieldType := fun k => match k with
  | 0 => .int
  | 1 => .int
  | 2 => .int
  | 3 => .int
  | 4 => .int
  | 5 => .int
  | _ => .int
abbrev wsX70 : List Cond := u_ws RX7 TX7 7
theorem nmX7 : ∀ a, a < 7 → ∀ b, b < 7 → a ≠ b → (TX7 a).2.1 ≠ (TX7 b).2.1 := by decide +kernel
theorem tyX7_ok : ∀ k, k < 7 → parseFieldDescriptor (TX7 k).2.2.1 = some (tyX7 k) := by decide +kernel
abbrev cX7_init : ByteArray := prog_9_method_1_code
def yX7_init : MethodName := ⟨RX7, "<init>", "()V"⟩
abbrev cX7_begin : ByteArray := prog_9_method_2_code
def yX7_begin : MethodName := ⟨RX7, "begin", "(I)V"⟩
abbrev cX7_add : ByteArray := prog_9_method_3_code
def yX7_add : MethodName := ⟨RX7, "add", "(LPressGuard$Trial;I)V"⟩
abbrev cX7_part : ByteArray := prog_9_method_4_code
def yX7_part : MethodName := ⟨RX7, "part", "(I)I"⟩
def RX8 : String := "PressGuard"
def TX8 : u_T := fun k => match k with
  | 0 => ("PressGuard", "settings", "LPressGuard$Settings;", true)
  | 1 => ("PressGuard", "faults", "LPressGuard$Faults;", true)
  | 2 => ("PressGuard", "press", "LPressGuard$Press;", true)
  | 3 => ("PressGuard", "attempt", "LPressGuard$Press;", true)
  | 4 => ("PressGuard", "notes", "LPressGuard$Notes;", true)
  | 5 => ("PressGuard", "script", "LPressGuard$Script;", true)
  | 6 => ("PressGuard", "stuckTrial", "LPressGuard$Trial;", true)
  | 7 => ("PressGuard", "sums", "LPressGuard$TrialSums;", true)
  | 8 => ("PressGuard", "search", "LPressGuard$Search;", true)
  | _ => ("PressGuard", "sumsHold", "Z", false)
def tyX8 : Nat → FieldType := fun k => match k with
  | 0 => .object "PressGuard$Settings"
  | 1 => .object "PressGuard$Faults"
  | 2 => .object "PressGuard$Press"
  | 3 => .object "PressGuard$Press"
  | 4 => .object "PressGuard$Notes"
  | 5 => .object "PressGuard$Script"
  | 6 => .object "PressGuard$Trial"
  | 7 => .object "PressGuard$TrialSums"
  | 8 => .object "PressGuard$Search"
  | _ => .boolean
abbrev wsX80 : List Cond := u_ws RX8 TX8 10
theorem nmX8 : ∀ a, a < 10 → ∀ b, b < 10 → a ≠ b → (TX8 a).2.1 ≠ (TX8 b).2.1 := by decide +kernel
theorem tyX8_ok : ∀ k, k < 10 → parseFieldDescriptor (TX8 k).2.2.1 = some (tyX8 k) := by decide +kernel
abbrev cX8_init : ByteArray := prog_1_method_1_code
def yX8_init : MethodName := ⟨RX8, "<init>", "()V"⟩
abbrev cX8_anew : ByteArray := prog_1_method_2_code
def yX8_anew : MethodName := ⟨RX8, "anew", "(IIIII)I"⟩
abbrev cX8_stick : ByteArray := prog_1_method_3_code
def yX8_stick : MethodName := ⟨RX8, "stick", "(II)I"⟩
abbrev cX8_valve : ByteArray := prog_1_method_4_code
def yX8_valve : MethodName := ⟨RX8, "valve", "(II)I"⟩
abbrev cX8_tick : ByteArray := prog_1_method_5_code
def yX8_tick : MethodName := ⟨RX8, "tick", "(I)I"⟩
abbrev cX8_ticks : ByteArray := prog_1_method_6_code
def yX8_ticks : MethodName := ⟨RX8, "ticks", "(II)I"⟩
abbrev cX8_now : ByteArray := prog_1_method_7_code
def yX8_now : MethodName := ⟨RX8, "now", "(I)I"⟩
abbrev cX8_setting : ByteArray := prog_1_method_8_code
def yX8_setting : MethodName := ⟨RX8, "setting", "(I)I"⟩
abbrev cX8_leadsTo : ByteArray := prog_1_method_9_code
def yX8_leadsTo : MethodName := ⟨RX8, "leadsTo", "(I)I"⟩
abbrev cX8_locked : ByteArray := prog_1_method_10_code
def yX8_locked : MethodName := ⟨RX8, "locked", "(II)I"⟩
abbrev cX8_cause : ByteArray := prog_1_method_11_code
def yX8_cause : MethodName := ⟨RX8, "cause", "(I)I"⟩
abbrev cX8_followed : ByteArray := prog_1_method_12_code
def yX8_followed : MethodName := ⟨RX8, "followed", "(I)I"⟩
abbrev cX8_places : ByteArray := prog_1_method_13_code
def yX8_places : MethodName := ⟨RX8, "places", "()I"⟩
abbrev cX8_step : ByteArray := prog_1_method_14_code
def yX8_step : MethodName := ⟨RX8, "step", "(I)I"⟩
abbrev cX8_wipe : ByteArray := prog_1_method_15_code
def yX8_wipe : MethodName := ⟨RX8, "wipe", "()I"⟩
abbrev cX8_stepAt : ByteArray := prog_1_method_16_code
def yX8_stepAt : MethodName := ⟨RX8, "stepAt", "(I)I"⟩
abbrev cX8_trial : ByteArray := prog_1_method_17_code
def yX8_trial : MethodName := ⟨RX8, "trial", "(IIII)I"⟩
abbrev cX8_trials : ByteArray := prog_1_method_18_code
def yX8_trials : MethodName := ⟨RX8, "trials", "(I)I"⟩
abbrev cX8_reach : ByteArray := prog_1_method_19_code
def yX8_reach : MethodName := ⟨RX8, "reach", "(IIII)I"⟩
abbrev cX8_many : ByteArray := prog_1_method_20_code
def yX8_many : MethodName := ⟨RX8, "many", "(I)I"⟩
abbrev cX8_advanceNoted : ByteArray := prog_1_method_21_code
def yX8_advanceNoted : MethodName := ⟨RX8, "advanceNoted", "(I)V"⟩
abbrev cX8_sumUpTrials : ByteArray := prog_1_method_22_code
def yX8_sumUpTrials : MethodName := ⟨RX8, "sumUpTrials", "()V"⟩
abbrev cX8_sumUpTrialsOf : ByteArray := prog_1_method_23_code
def yX8_sumUpTrialsOf : MethodName := ⟨RX8, "sumUpTrialsOf", "(II)V"⟩
abbrev cX8_within : ByteArray := prog_1_method_24_code
def yX8_within : MethodName := ⟨RX8, "within", "(III)Z"⟩
abbrev cX8_isSet : ByteArray := prog_1_method_25_code
def yX8_isSet : MethodName := ⟨RX8, "isSet", "(I)Z"⟩
abbrev cX8_bit : ByteArray := prog_1_method_26_code
def yX8_bit : MethodName := ⟨RX8, "bit", "(II)I"⟩
abbrev cX8_pairCount : ByteArray := prog_1_method_27_code
def yX8_pairCount : MethodName := ⟨RX8, "pairCount", "(II)I"⟩
def RX9 : String := "PressGuardModel"
def TX9 : u_T := fun k => match k with
  | 0 => ("PressGuardModel", "patience", "I", false)
  | 1 => ("PressGuardModel", "span", "I", false)
  | 2 => ("PressGuardModel", "limit", "I", false)
  | 3 => ("PressGuardModel", "overrun", "I", false)
  | 4 => ("PressGuardModel", "bottom", "I", false)
  | 5 => ("PressGuardModel", "stuck", "[I", true)
  | 6 => ("PressGuardModel", "valves", "[I", true)
  | 7 => ("PressGuardModel", "mode", "I", false)
  | 8 => ("PressGuardModel", "hands", "I", false)
  | 9 => ("PressGuardModel", "since", "I", false)
  | 10 => ("PressGuardModel", "muting", "I", false)
  | 11 => ("PressGuardModel", "mutedFor", "I", false)
  | 12 => ("PressGuardModel", "apart", "[I", true)
  | 13 => ("PressGuardModel", "unlike", "I", false)
  | 14 => ("PressGuardModel", "command", "I", false)
  | 15 => ("PressGuardModel", "position", "I", false)
  | 16 => ("PressGuardModel", "brake", "I", false)
  | 17 => ("PressGuardModel", "wasReset", "I", false)
  | 18 => ("PressGuardModel", "lockedBy", "I", false)
  | 19 => ("PressGuardModel", "newCause", "I", false)
  | 20 => ("PressGuardModel", "newPlace", "I", false)
  | 21 => ("PressGuardModel", "danger", "I", false)
  | 22 => ("PressGuardModel", "round", "I", false)
  | 23 => ("PressGuardModel", "left", "J", false)
  | 24 => ("PressGuardModel", "ticks", "I", false)
  | 25 => ("PressGuardModel", "dangers", "I", false)
  | 26 => ("PressGuardModel", "rounds", "I", false)
  | 27 => ("PressGuardModel", "locks", "I", false)
  | 28 => ("PressGuardModel", "lockedAt", "[I", true)
  | 29 => ("PressGuardModel", "firstCauses", "[I", true)
  | 30 => ("PressGuardModel", "manyCauses", "I", false)
  | 31 => ("PressGuardModel", "behind", "[I", true)
  | 32 => ("PressGuardModel", "script", "[I", true)
  | 33 => ("PressGuardModel", "steps", "I", false)
  | 34 => ("PressGuardModel", "results", "[I", true)
  | 35 => ("PressGuardModel", "keptStuck", "[I", true)
  | 36 => ("PressGuardModel", "stateAt", "[J", true)
  | 37 => ("PressGuardModel", "depthAt", "[I", true)
  | 38 => ("PressGuardModel", "states", "I", false)
  | _ => ("PressGuardModel", "mostDangers", "I", false)
def tyX9 : Nat → FieldType := fun k => match k with
  | 0 => .int
  | 1 => .int
  | 2 => .int
  | 3 => .int
  | 4 => .int
  | 5 => .array .int
  | 6 => .array .int
  | 7 => .int
  | 8 => .int
  | 9 => .int
  | 10 => .int
  | 11 => .int
  | 12 => .array .int
  | 13 => .int
  | 14 => .int
  | 15 => .int
  | 16 => .int
  | 17 => .int
  | 18 => .int
  | 19 => .int
  | 20 => .int
  | 21 => .int
  | 22 => .int
  | 23 => .long
  | 24 => .int
  | 25 => .int
  | 26 => .int
  | 27 => .int
  | 28 => .array .int
  | 29 => .array .int
  | 30 => .int
  | 31 => .array .int
  | 32 => .array .int
  | 33 => .int
  | 34 => .array .int
  | 35 => .array .int
  | 36 => .array .long
  | 37 => .array .int
  | 38 => .int
  | _ => .int
abbrev wsX90 : List Cond := u_ws RX9 TX9 40
theorem nmX9 : ∀ a, a < 40 → ∀ b, b < 40 → a ≠ b → (TX9 a).2.1 ≠ (TX9 b).2.1 := by decide +kernel
theorem tyX9_ok : ∀ k, k < 40 → parseFieldDescriptor (TX9 k).2.2.1 = some (tyX9 k) := by decide +kernel
abbrev cX9_init : ByteArray := prog_11_method_1_code
def yX9_init : MethodName := ⟨RX9, "<init>", "()V"⟩
abbrev cX9_within : ByteArray := prog_11_method_2_code
def yX9_within : MethodName := ⟨RX9, "within", "(III)Z"⟩
abbrev cX9_isSet : ByteArray := prog_11_method_3_code
def yX9_isSet : MethodName := ⟨RX9, "isSet", "(I)Z"⟩
abbrev cX9_bit : ByteArray := prog_11_method_4_code
def yX9_bit : MethodName := ⟨RX9, "bit", "(II)I"⟩
abbrev cX9_seen : ByteArray := prog_11_method_5_code
def yX9_seen : MethodName := ⟨RX9, "seen", "(I)I"⟩
abbrev cX9_isOn : ByteArray := prog_11_method_6_code
def yX9_isOn : MethodName := ⟨RX9, "isOn", "(II)Z"⟩
abbrev cX9_mutingBy : ByteArray := prog_11_method_7_code
def yX9_mutingBy : MethodName := ⟨RX9, "mutingBy", "(III)I"⟩
abbrev cX9_handsBy : ByteArray := prog_11_method_8_code
def yX9_handsBy : MethodName := ⟨RX9, "handsBy", "(I)I"⟩
abbrev cX9_valveAt : ByteArray := prog_11_method_9_code
def yX9_valveAt : MethodName := ⟨RX9, "valveAt", "(I)I"⟩
abbrev cX9_more : ByteArray := prog_11_method_10_code
def yX9_more : MethodName := ⟨RX9, "more", "(I)I"⟩
abbrev cX9_leastCause : ByteArray := prog_11_method_11_code
def yX9_leastCause : MethodName := ⟨RX9, "leastCause", "(I)I"⟩
abbrev cX9_tickBy : ByteArray := prog_11_method_12_code
def yX9_tickBy : MethodName := ⟨RX9, "tickBy", "(I)V"⟩
abbrev cX9_goesOn : ByteArray := prog_11_method_13_code
def yX9_goesOn : MethodName := ⟨RX9, "goesOn", "(ZZZ)V"⟩
abbrev cX9_slides : ByteArray := prog_11_method_14_code
def yX9_slides : MethodName := ⟨RX9, "slides", "(IZ)V"⟩
abbrev cX9_stateOf : ByteArray := prog_11_method_15_code
def yX9_stateOf : MethodName := ⟨RX9, "stateOf", "()J"⟩
abbrev cX9_takes : ByteArray := prog_11_method_16_code
def yX9_takes : MethodName := ⟨RX9, "takes", "(J)I"⟩
abbrev cX9_becomes : ByteArray := prog_11_method_17_code
def yX9_becomes : MethodName := ⟨RX9, "becomes", "(JI)V"⟩
abbrev cX9_begins : ByteArray := prog_11_method_18_code
def yX9_begins : MethodName := ⟨RX9, "begins", "()V"⟩
abbrev cX9_anew : ByteArray := prog_11_method_19_code
def yX9_anew : MethodName := ⟨RX9, "anew", "(IIIII)I"⟩
abbrev cX9_stick : ByteArray := prog_11_method_20_code
def yX9_stick : MethodName := ⟨RX9, "stick", "(II)I"⟩
abbrev cX9_valve : ByteArray := prog_11_method_21_code
def yX9_valve : MethodName := ⟨RX9, "valve", "(II)I"⟩
abbrev cX9_notes : ByteArray := prog_11_method_22_code
def yX9_notes : MethodName := ⟨RX9, "notes", "(I)V"⟩
abbrev cX9_tick : ByteArray := prog_11_method_23_code
def yX9_tick : MethodName := ⟨RX9, "tick", "(I)I"⟩
abbrev cX9_ticks : ByteArray := prog_11_method_24_code
def yX9_ticks : MethodName := ⟨RX9, "ticks", "(II)I"⟩
abbrev cX9_now : ByteArray := prog_11_method_25_code
def yX9_now : MethodName := ⟨RX9, "now", "(I)I"⟩
abbrev cX9_setting : ByteArray := prog_11_method_26_code
def yX9_setting : MethodName := ⟨RX9, "setting", "(I)I"⟩
abbrev cX9_leadsTo : ByteArray := prog_11_method_27_code
def yX9_leadsTo : MethodName := ⟨RX9, "leadsTo", "(I)I"⟩
abbrev cX9_locked : ByteArray := prog_11_method_28_code
def yX9_locked : MethodName := ⟨RX9, "locked", "(II)I"⟩
abbrev cX9_cause : ByteArray := prog_11_method_29_code
def yX9_cause : MethodName := ⟨RX9, "cause", "(I)I"⟩
abbrev cX9_followed : ByteArray := prog_11_method_30_code
def yX9_followed : MethodName := ⟨RX9, "followed", "(I)I"⟩
abbrev cX9_places : ByteArray := prog_11_method_31_code
def yX9_places : MethodName := ⟨RX9, "places", "()I"⟩
abbrev cX9_step : ByteArray := prog_11_method_32_code
def yX9_step : MethodName := ⟨RX9, "step", "(I)I"⟩
abbrev cX9_wipe : ByteArray := prog_11_method_33_code
def yX9_wipe : MethodName := ⟨RX9, "wipe", "()I"⟩
abbrev cX9_stepAt : ByteArray := prog_11_method_34_code
def yX9_stepAt : MethodName := ⟨RX9, "stepAt", "(I)I"⟩
abbrev cX9_keeps : ByteArray := prog_11_method_35_code
def yX9_keeps : MethodName := ⟨RX9, "keeps", "()V"⟩
abbrev cX9_restores : ByteArray := prog_11_method_36_code
def yX9_restores : MethodName := ⟨RX9, "restores", "()V"⟩
abbrev cX9_tries : ByteArray := prog_11_method_37_code
def yX9_tries : MethodName := ⟨RX9, "tries", "(III)V"⟩
abbrev cX9_trial : ByteArray := prog_11_method_38_code
def yX9_trial : MethodName := ⟨RX9, "trial", "(IIII)I"⟩
abbrev cX9_trials : ByteArray := prog_11_method_39_code
def yX9_trials : MethodName := ⟨RX9, "trials", "(I)I"⟩
abbrev cX9_isMay : ByteArray := prog_11_method_40_code
def yX9_isMay : MethodName := ⟨RX9, "isMay", "(I)Z"⟩
abbrev cX9_comes : ByteArray := prog_11_method_41_code
def yX9_comes : MethodName := ⟨RX9, "comes", "(I)V"⟩
abbrev cX9_chosen : ByteArray := prog_11_method_42_code
def yX9_chosen : MethodName := ⟨RX9, "chosen", "(III)I"⟩
abbrev cX9_goesAll : ByteArray := prog_11_method_43_code
def yX9_goesAll : MethodName := ⟨RX9, "goesAll", "(III)V"⟩
abbrev cX9_modeOf : ByteArray := prog_11_method_44_code
def yX9_modeOf : MethodName := ⟨RX9, "modeOf", "(J)I"⟩
abbrev cX9_reach : ByteArray := prog_11_method_45_code
def yX9_reach : MethodName := ⟨RX9, "reach", "(IIII)I"⟩
abbrev cX9_many : ByteArray := prog_11_method_46_code
def yX9_many : MethodName := ⟨RX9, "many", "(I)I"⟩
def RJ6 : String := "java/lang/Integer"
def TJ6 : u_T := fun k => match k with
  | _ => ("", "", "", false)
def tyJ6 : Nat → FieldType := fun k => match k with
  | _ => .int
abbrev wsJ60 : List Cond := u_ws RJ6 TJ6 0
theorem nmJ6 : ∀ a, a < 0 → ∀ b, b < 0 → a ≠ b → (TJ6 a).2.1 ≠ (TJ6 b).2.1 := by decide +kernel
theorem tyJ6_ok : ∀ k, k < 0 → parseFieldDescriptor (TJ6 k).2.2.1 = some (tyJ6 k) := by decide +kernel
abbrev cJ6_bitCount_0f7a4 : ByteArray := prog_12_method_49_code
def yJ6_bitCount_0f7a4 : MethodName := ⟨RJ6, "bitCount", "(I)I"⟩
def RJ9 : String := "java/lang/Math"
def TJ9 : u_T := fun k => match k with
  | _ => ("", "", "", false)
def tyJ9 : Nat → FieldType := fun k => match k with
  | _ => .int
abbrev wsJ90 : List Cond := u_ws RJ9 TJ9 0
theorem nmJ9 : ∀ a, a < 0 → ∀ b, b < 0 → a ≠ b → (TJ9 a).2.1 ≠ (TJ9 b).2.1 := by decide +kernel
theorem tyJ9_ok : ∀ k, k < 0 → parseFieldDescriptor (TJ9 k).2.2.1 = some (tyJ9 k) := by decide +kernel
abbrev cJ9_max_7cf53 : ByteArray := prog_13_method_65_code
def yJ9_max_7cf53 : MethodName := ⟨RJ9, "max", "(II)I"⟩
abbrev cJ9_min_7cf53 : ByteArray := prog_13_method_69_code
def yJ9_min_7cf53 : MethodName := ⟨RJ9, "min", "(II)I"⟩
def RJ7 : String := "java/util/Arrays"
def TJ7 : u_T := fun k => match k with
  | _ => ("", "", "", false)
def tyJ7 : Nat → FieldType := fun k => match k with
  | _ => .int
abbrev wsJ70 : List Cond := u_ws RJ7 TJ7 0
theorem nmJ7 : ∀ a, a < 0 → ∀ b, b < 0 → a ≠ b → (TJ7 a).2.1 ≠ (TJ7 b).2.1 := by decide +kernel
theorem tyJ7_ok : ∀ k, k < 0 → parseFieldDescriptor (TJ7 k).2.2.1 = some (tyJ7 k) := by decide +kernel
abbrev cJ7_fill_d0a16 : ByteArray := prog_14_method_101_code
def yJ7_fill_d0a16 : MethodName := ⟨RJ7, "fill", "([JJ)V"⟩
abbrev cJ7_fill_53178 : ByteArray := prog_14_method_103_code
def yJ7_fill_53178 : MethodName := ⟨RJ7, "fill", "([II)V"⟩
def RL : String := "PressGuardLaw"
abbrev cL_law : ByteArray := code
def yL_law : MethodName := ⟨RL, "law", "([I)Z"⟩
def wsX0_init : List Cond := .code yX0_init cX0_init 1 none :: ([.methodLink RX0 3 objectInit, .instanceMethod objectInit, .code objectInit ⟨#[0xb1]⟩ 1 none, .fieldLink RX0 9 "PressGuard$Faults" "stuckOff" "I", .fieldLink RX0 15 "PressGuard$Faults" "stuckOn" "I", .fieldLink RX0 18 "PressGuard$Faults" "firstValve" "I", .fieldLink RX0 21 "PressGuard$Faults" "secondValve" "I"] ++ wsX00)
def wsX0_clear : List Cond := .code yX0_clear cX0_clear 1 none :: ([.fieldLink RX0 9 "PressGuard$Faults" "stuckOff" "I", .fieldLink RX0 15 "PressGuard$Faults" "stuckOn" "I", .fieldLink RX0 18 "PressGuard$Faults" "firstValve" "I", .fieldLink RX0 21 "PressGuard$Faults" "secondValve" "I"] ++ wsX00)
def wsX8_bit : List Cond := .code yX8_bit cX8_bit 2 (some .int) :: ([])
def wsX0_inputStuckAt : List Cond := .code yX0_inputStuckAt cX0_inputStuckAt 2 (some .int) :: ([.fieldLink RX0 15 "PressGuard$Faults" "stuckOn" "I", .fieldLink RX0 9 "PressGuard$Faults" "stuckOff" "I", .static yX8_bit, .initialized RX8, .code yX8_bit cX8_bit 2 (some .int)] ++ wsX00)
def wsX0_setInput : List Cond := .code yX0_setInput cX0_setInput 4 none :: ([.fieldLink RX0 9 "PressGuard$Faults" "stuckOff" "I", .fieldLink RX0 15 "PressGuard$Faults" "stuckOn" "I"] ++ wsX00)
def wsX0_valveStuckAt : List Cond := .code yX0_valveStuckAt cX0_valveStuckAt 2 (some .int) :: ([.fieldLink RX0 18 "PressGuard$Faults" "firstValve" "I", .fieldLink RX0 21 "PressGuard$Faults" "secondValve" "I"] ++ wsX00)
def wsX0_setValve : List Cond := .code yX0_setValve cX0_setValve 3 none :: ([.fieldLink RX0 18 "PressGuard$Faults" "firstValve" "I", .fieldLink RX0 21 "PressGuard$Faults" "secondValve" "I"] ++ wsX00)
def wsX0_valvesStuck : List Cond := .code yX0_valvesStuck cX0_valvesStuck 1 (some .int) :: ([.fieldLink RX0 18 "PressGuard$Faults" "firstValve" "I", .fieldLink RX0 21 "PressGuard$Faults" "secondValve" "I"] ++ wsX00)
def wsX0_seenOf : List Cond := .code yX0_seenOf cX0_seenOf 2 (some .int) :: ([.fieldLink RX0 15 "PressGuard$Faults" "stuckOn" "I", .fieldLink RX0 9 "PressGuard$Faults" "stuckOff" "I"] ++ wsX00)
def wsX0_valveIs : List Cond := .code yX0_valveIs cX0_valveIs 2 (some .int) :: ([])
def wsX0_valvesObey : List Cond := .code yX0_valvesObey cX0_valvesObey 2 (some .boolean) :: ([.fieldLink RX0 18 "PressGuard$Faults" "firstValve" "I", .fieldLink RX0 21 "PressGuard$Faults" "secondValve" "I", .methodLink RX0 28 yX0_valveIs, .static yX0_valveIs, .initialized RX0, .code yX0_valveIs cX0_valveIs 2 (some .int)] ++ wsX00)
def wsX0_bothOpen : List Cond := .code yX0_bothOpen cX0_bothOpen 2 (some .boolean) :: ([.fieldLink RX0 18 "PressGuard$Faults" "firstValve" "I", .fieldLink RX0 21 "PressGuard$Faults" "secondValve" "I", .methodLink RX0 28 yX0_valveIs, .static yX0_valveIs, .initialized RX0, .code yX0_valveIs cX0_valveIs 2 (some .int)] ++ wsX00)
def wsX1_init : List Cond := .code yX1_init cX1_init 1 none :: ([.methodLink RX1 3 objectInit, .instanceMethod objectInit, .code objectInit ⟨#[0xb1]⟩ 1 none, .arrayClass .int, .fieldLink RX1 9 "PressGuard$Notes" "lockTable" "[I", .fieldLink RX1 15 "PressGuard$Notes" "causeOrder" "[I", .fieldLink RX1 18 "PressGuard$Notes" "behind" "[I", .fieldLink RX1 21 "PressGuard$Notes" "causesKnown" "I", .fieldLink RX1 25 "PressGuard$Notes" "lockPlaces" "I", .fieldLink RX1 28 "PressGuard$Notes" "lockCount" "I", .fieldLink RX1 31 "PressGuard$Notes" "tickCount" "I"] ++ wsX10)
def wsJ7_fill_53178 : List Cond := .code yJ7_fill_53178 cJ7_fill_53178 4 none :: ([])
def wsX1_clear : List Cond := .code yX1_clear cX1_clear 1 none :: ([.fieldLink RX1 9 "PressGuard$Notes" "lockTable" "[I", .fieldLink RX1 15 "PressGuard$Notes" "causeOrder" "[I", .fieldLink RX1 18 "PressGuard$Notes" "behind" "[I", .fieldLink RX1 21 "PressGuard$Notes" "causesKnown" "I", .fieldLink RX1 25 "PressGuard$Notes" "lockPlaces" "I", .fieldLink RX1 28 "PressGuard$Notes" "lockCount" "I", .fieldLink RX1 31 "PressGuard$Notes" "tickCount" "I", .methodLink RX1 34 yJ7_fill_53178, .static yJ7_fill_53178, .initialized RJ7, .code yJ7_fill_53178 cJ7_fill_53178 4 none] ++ wsX10)
def wsX8_within : List Cond := .code yX8_within cX8_within 3 (some .boolean) :: ([])
def wsX1_addTick : List Cond := .code yX1_addTick cX1_addTick 3 none :: ([.fieldLink RX1 31 "PressGuard$Notes" "tickCount" "I", .fieldLink RX1 18 "PressGuard$Notes" "behind" "[I", .static yX8_within, .initialized RX8, .code yX8_within cX8_within 3 (some .boolean)] ++ wsX10)
def wsX1_locksAt : List Cond := .code yX1_locksAt cX1_locksAt 3 (some .int) :: ([.fieldLink RX1 9 "PressGuard$Notes" "lockTable" "[I", .static yX8_within, .initialized RX8, .code yX8_within cX8_within 3 (some .boolean)] ++ wsX10)
def wsX1_locksBy : List Cond := .code yX1_locksBy cX1_locksBy 4 (some .int) :: ([.methodLink RX1 48 yX1_locksAt, .instanceMethod yX1_locksAt, .selects RX1 yX1_locksAt yX1_locksAt, .initialized RX1, .code yX1_locksAt cX1_locksAt 3 (some .int), .fieldLink RX1 9 "PressGuard$Notes" "lockTable" "[I", .static yX8_within, .initialized RX8, .code yX8_within cX8_within 3 (some .boolean)] ++ wsX10)
def wsX1_addLock : List Cond := .code yX1_addLock cX1_addLock 3 none :: ([.fieldLink RX1 21 "PressGuard$Notes" "causesKnown" "I", .fieldLink RX1 15 "PressGuard$Notes" "causeOrder" "[I", .fieldLink RX1 9 "PressGuard$Notes" "lockTable" "[I", .fieldLink RX1 25 "PressGuard$Notes" "lockPlaces" "I", .fieldLink RX1 28 "PressGuard$Notes" "lockCount" "I", .static yX8_within, .initialized RX8, .code yX8_within cX8_within 3 (some .boolean), .methodLink RX1 44 yX1_locksBy, .instanceMethod yX1_locksBy, .selects RX1 yX1_locksBy yX1_locksBy, .initialized RX1, .code yX1_locksBy cX1_locksBy 4 (some .int), .methodLink RX1 48 yX1_locksAt, .instanceMethod yX1_locksAt, .selects RX1 yX1_locksAt yX1_locksAt, .code yX1_locksAt cX1_locksAt 3 (some .int)] ++ wsX10)
def wsX1_causeInOrder : List Cond := .code yX1_causeInOrder cX1_causeInOrder 2 (some .int) :: ([.fieldLink RX1 21 "PressGuard$Notes" "causesKnown" "I", .fieldLink RX1 15 "PressGuard$Notes" "causeOrder" "[I"] ++ wsX10)
def wsX1_modesBehind : List Cond := .code yX1_modesBehind cX1_modesBehind 2 (some .int) :: ([.fieldLink RX1 18 "PressGuard$Notes" "behind" "[I", .static yX8_within, .initialized RX8, .code yX8_within cX8_within 3 (some .boolean)] ++ wsX10)
def wsX2_init : List Cond := .code yX2_init cX2_init 3 none :: ([.methodLink RX2 3 objectInit, .instanceMethod objectInit, .code objectInit ⟨#[0xb1]⟩ 1 none, .fieldLink RX2 9 "PressGuard$Press" "mode" "I", .fieldLink RX2 15 "PressGuard$Press" "hands" "I", .fieldLink RX2 18 "PressGuard$Press" "since" "I", .fieldLink RX2 21 "PressGuard$Press" "muting" "I", .fieldLink RX2 24 "PressGuard$Press" "mutedFor" "I", .fieldLink RX2 27 "PressGuard$Press" "leftApart" "I", .fieldLink RX2 30 "PressGuard$Press" "rightApart" "I", .fieldLink RX2 33 "PressGuard$Press" "curtainApart" "I", .fieldLink RX2 36 "PressGuard$Press" "unlike" "I", .fieldLink RX2 39 "PressGuard$Press" "command" "I", .fieldLink RX2 42 "PressGuard$Press" "position" "I", .fieldLink RX2 45 "PressGuard$Press" "brake" "I", .fieldLink RX2 48 "PressGuard$Press" "resetSeen" "I", .fieldLink RX2 51 "PressGuard$Press" "lockedBy" "I", .fieldLink RX2 54 "PressGuard$Press" "dangers" "I", .fieldLink RX2 57 "PressGuard$Press" "rounds" "I", .fieldLink RX2 60 "PressGuard$Press" "settings" "LPressGuard$Settings;", .fieldLink RX2 64 "PressGuard$Press" "faults" "LPressGuard$Faults;"] ++ wsX20)
def wsX2_begin : List Cond := .code yX2_begin cX2_begin 1 none :: ([.fieldLink RX2 9 "PressGuard$Press" "mode" "I", .fieldLink RX2 15 "PressGuard$Press" "hands" "I", .fieldLink RX2 18 "PressGuard$Press" "since" "I", .fieldLink RX2 21 "PressGuard$Press" "muting" "I", .fieldLink RX2 24 "PressGuard$Press" "mutedFor" "I", .fieldLink RX2 27 "PressGuard$Press" "leftApart" "I", .fieldLink RX2 30 "PressGuard$Press" "rightApart" "I", .fieldLink RX2 33 "PressGuard$Press" "curtainApart" "I", .fieldLink RX2 36 "PressGuard$Press" "unlike" "I", .fieldLink RX2 39 "PressGuard$Press" "command" "I", .fieldLink RX2 42 "PressGuard$Press" "position" "I", .fieldLink RX2 45 "PressGuard$Press" "brake" "I", .fieldLink RX2 48 "PressGuard$Press" "resetSeen" "I", .fieldLink RX2 51 "PressGuard$Press" "lockedBy" "I", .fieldLink RX2 54 "PressGuard$Press" "dangers" "I", .fieldLink RX2 57 "PressGuard$Press" "rounds" "I"] ++ wsX20)
def wsX2_copyFrom : List Cond := .code yX2_copyFrom cX2_copyFrom 2 none :: ([.fieldLink RX2 9 "PressGuard$Press" "mode" "I", .fieldLink RX2 15 "PressGuard$Press" "hands" "I", .fieldLink RX2 18 "PressGuard$Press" "since" "I", .fieldLink RX2 21 "PressGuard$Press" "muting" "I", .fieldLink RX2 24 "PressGuard$Press" "mutedFor" "I", .fieldLink RX2 27 "PressGuard$Press" "leftApart" "I", .fieldLink RX2 30 "PressGuard$Press" "rightApart" "I", .fieldLink RX2 33 "PressGuard$Press" "curtainApart" "I", .fieldLink RX2 36 "PressGuard$Press" "unlike" "I", .fieldLink RX2 39 "PressGuard$Press" "command" "I", .fieldLink RX2 42 "PressGuard$Press" "position" "I", .fieldLink RX2 45 "PressGuard$Press" "brake" "I", .fieldLink RX2 48 "PressGuard$Press" "resetSeen" "I", .fieldLink RX2 51 "PressGuard$Press" "lockedBy" "I", .fieldLink RX2 54 "PressGuard$Press" "dangers" "I", .fieldLink RX2 57 "PressGuard$Press" "rounds" "I"] ++ wsX20)
def wsX2_part : List Cond := .code yX2_part cX2_part 2 (some .int) :: ([.fieldLink RX2 9 "PressGuard$Press" "mode" "I", .fieldLink RX2 15 "PressGuard$Press" "hands" "I", .fieldLink RX2 18 "PressGuard$Press" "since" "I", .fieldLink RX2 21 "PressGuard$Press" "muting" "I", .fieldLink RX2 24 "PressGuard$Press" "mutedFor" "I", .fieldLink RX2 27 "PressGuard$Press" "leftApart" "I", .fieldLink RX2 30 "PressGuard$Press" "rightApart" "I", .fieldLink RX2 33 "PressGuard$Press" "curtainApart" "I", .fieldLink RX2 36 "PressGuard$Press" "unlike" "I", .fieldLink RX2 39 "PressGuard$Press" "command" "I", .fieldLink RX2 42 "PressGuard$Press" "position" "I", .fieldLink RX2 45 "PressGuard$Press" "brake" "I", .fieldLink RX2 48 "PressGuard$Press" "resetSeen" "I", .fieldLink RX2 51 "PressGuard$Press" "lockedBy" "I"] ++ wsX20)
def wsX2_stateNumber : List Cond := .code yX2_stateNumber cX2_stateNumber 3 (some .long) :: ([.constantLong RX2 68 (5), .fieldLink RX2 9 "PressGuard$Press" "mode" "I", .constantLong RX2 70 (4), .fieldLink RX2 15 "PressGuard$Press" "hands" "I", .constantLong RX2 72 (10), .fieldLink RX2 18 "PressGuard$Press" "since" "I", .fieldLink RX2 21 "PressGuard$Press" "muting" "I", .constantLong RX2 74 (31), .fieldLink RX2 24 "PressGuard$Press" "mutedFor" "I", .fieldLink RX2 27 "PressGuard$Press" "leftApart" "I", .fieldLink RX2 30 "PressGuard$Press" "rightApart" "I", .fieldLink RX2 33 "PressGuard$Press" "curtainApart" "I", .fieldLink RX2 36 "PressGuard$Press" "unlike" "I", .constantLong RX2 76 (2), .fieldLink RX2 39 "PressGuard$Press" "command" "I", .constantLong RX2 78 (18), .fieldLink RX2 42 "PressGuard$Press" "position" "I", .fieldLink RX2 45 "PressGuard$Press" "brake" "I", .fieldLink RX2 48 "PressGuard$Press" "resetSeen" "I"] ++ wsX20)
def wsX8_pairCount : List Cond := .code yX8_pairCount cX8_pairCount 2 (some .int) :: ([.methodLink RX8 211 yX8_bit, .static yX8_bit, .initialized RX8, .code yX8_bit cX8_bit 2 (some .int)])
def wsX2_oneMore : List Cond := .code yX2_oneMore cX2_oneMore 1 (some .int) :: ([.methodLink RX2 122 Lib.Math.min.name, .static Lib.Math.min.name, .initialized "java/lang/Math", .code Lib.Math.min.name Lib.Math.min.code 2 (some .int)])
def wsX2_apartThen : List Cond := .code yX2_apartThen cX2_apartThen 3 (some .int) :: ([.static yX8_pairCount, .initialized RX8, .code yX8_pairCount cX8_pairCount 2 (some .int), .methodLink RX8 211 yX8_bit, .static yX8_bit, .code yX8_bit cX8_bit 2 (some .int), .methodLink RX2 101 yX2_oneMore, .static yX2_oneMore, .initialized RX2, .code yX2_oneMore cX2_oneMore 1 (some .int), .methodLink RX2 122 Lib.Math.min.name, .static Lib.Math.min.name, .initialized "java/lang/Math", .code Lib.Math.min.name Lib.Math.min.code 2 (some .int)])
def wsX2_isMuted : List Cond := .code yX2_isMuted cX2_isMuted 1 (some .boolean) :: ([.fieldLink RX2 21 "PressGuard$Press" "muting" "I"] ++ wsX20)
def wsX2_mutingThen : List Cond := .code yX2_mutingThen cX2_mutingThen 3 (some .int) :: ([.fieldLink RX2 21 "PressGuard$Press" "muting" "I", .methodLink RX2 108 yX2_isMuted, .instanceMethod yX2_isMuted, .selects RX2 yX2_isMuted yX2_isMuted, .initialized RX2, .code yX2_isMuted cX2_isMuted 1 (some .boolean)] ++ wsX20)
def wsX2_moveMuting : List Cond := .code yX2_moveMuting cX2_moveMuting 2 none :: ([.fieldLink RX2 21 "PressGuard$Press" "muting" "I", .fieldLink RX2 24 "PressGuard$Press" "mutedFor" "I", .fieldLink RX2 60 "PressGuard$Press" "settings" "LPressGuard$Settings;", .fieldLink RX2 131 "PressGuard$Settings" "limit" "I", .static yX8_bit, .initialized RX8, .code yX8_bit cX8_bit 2 (some .int), .methodLink RX2 127 yX2_mutingThen, .instanceMethod yX2_mutingThen, .selects RX2 yX2_mutingThen yX2_mutingThen, .initialized RX2, .code yX2_mutingThen cX2_mutingThen 3 (some .int), .methodLink RX2 108 yX2_isMuted, .instanceMethod yX2_isMuted, .selects RX2 yX2_isMuted yX2_isMuted, .code yX2_isMuted cX2_isMuted 1 (some .boolean)] ++ wsX20 ++ wsX50)
def wsX2_handsThen : List Cond := .code yX2_handsThen cX2_handsThen 3 (some .int) :: ([.fieldLink RX2 15 "PressGuard$Press" "hands" "I", .fieldLink RX2 60 "PressGuard$Press" "settings" "LPressGuard$Settings;", .fieldLink RX2 139 "PressGuard$Settings" "span" "I"] ++ wsX20 ++ wsX50)
def wsX2_moveHands : List Cond := .code yX2_moveHands cX2_moveHands 4 none :: ([.fieldLink RX2 15 "PressGuard$Press" "hands" "I", .fieldLink RX2 18 "PressGuard$Press" "since" "I", .static yX8_pairCount, .initialized RX8, .code yX8_pairCount cX8_pairCount 2 (some .int), .methodLink RX8 211 yX8_bit, .static yX8_bit, .code yX8_bit cX8_bit 2 (some .int), .methodLink RX2 136 yX2_handsThen, .instanceMethod yX2_handsThen, .selects RX2 yX2_handsThen yX2_handsThen, .initialized RX2, .code yX2_handsThen cX2_handsThen 3 (some .int), .fieldLink RX2 60 "PressGuard$Press" "settings" "LPressGuard$Settings;", .fieldLink RX2 139 "PressGuard$Settings" "span" "I"] ++ wsX20 ++ wsX50)
def wsX2_leastCause : List Cond := .code yX2_leastCause cX2_leastCause 1 (some .int) :: ([.fieldLink RX2 27 "PressGuard$Press" "leftApart" "I", .fieldLink RX2 60 "PressGuard$Press" "settings" "LPressGuard$Settings;", .fieldLink RX2 142 "PressGuard$Settings" "patience" "I", .fieldLink RX2 30 "PressGuard$Press" "rightApart" "I", .fieldLink RX2 33 "PressGuard$Press" "curtainApart" "I", .fieldLink RX2 36 "PressGuard$Press" "unlike" "I", .fieldLink RX2 21 "PressGuard$Press" "muting" "I", .fieldLink RX2 9 "PressGuard$Press" "mode" "I"] ++ wsX20 ++ wsX50)
def wsX2_changeMode : List Cond := .code yX2_changeMode cX2_changeMode 7 none :: ([.fieldLink RX2 9 "PressGuard$Press" "mode" "I", .fieldLink RX2 48 "PressGuard$Press" "resetSeen" "I", .fieldLink RX2 15 "PressGuard$Press" "hands" "I", .fieldLink RX2 42 "PressGuard$Press" "position" "I", .fieldLink RX2 51 "PressGuard$Press" "lockedBy" "I", .fieldLink RX2 60 "PressGuard$Press" "settings" "LPressGuard$Settings;", .fieldLink RX2 149 "PressGuard$Settings" "bottom" "I", .methodLink RX2 145 yX2_leastCause, .instanceMethod yX2_leastCause, .selects RX2 yX2_leastCause yX2_leastCause, .initialized RX2, .code yX2_leastCause cX2_leastCause 1 (some .int), .fieldLink RX2 27 "PressGuard$Press" "leftApart" "I", .fieldLink RX2 142 "PressGuard$Settings" "patience" "I", .fieldLink RX2 30 "PressGuard$Press" "rightApart" "I", .fieldLink RX2 33 "PressGuard$Press" "curtainApart" "I", .fieldLink RX2 36 "PressGuard$Press" "unlike" "I", .fieldLink RX2 21 "PressGuard$Press" "muting" "I", .static yX8_bit, .initialized RX8, .code yX8_bit cX8_bit 2 (some .int)] ++ wsX20 ++ wsX50)
def wsX2_arriveAtTop : List Cond := .code yX2_arriveAtTop cX2_arriveAtTop 1 none :: ([.fieldLink RX2 42 "PressGuard$Press" "position" "I", .fieldLink RX2 45 "PressGuard$Press" "brake" "I", .fieldLink RX2 57 "PressGuard$Press" "rounds" "I", .fieldLink RX2 9 "PressGuard$Press" "mode" "I"] ++ wsX20)
def wsX2_moveSlide_r1 : List Cond := [Cond.fieldLink RX2 64 "PressGuard$Press" "faults" "LPressGuard$Faults;", Cond.fieldLink RX2 39 "PressGuard$Press" "command" "I", Cond.fieldLink RX2 60 "PressGuard$Press" "settings" "LPressGuard$Settings;", Cond.fieldLink RX2 155 "PressGuard$Settings" "overrun" "I", Cond.fieldLink RX2 45 "PressGuard$Press" "brake" "I", Cond.fieldLink RX2 42 "PressGuard$Press" "position" "I", Cond.fieldLink RX2 149 "PressGuard$Settings" "bottom" "I", Cond.fieldLink RX2 54 "PressGuard$Press" "dangers" "I", Cond.fieldLink RX2 9 "PressGuard$Press" "mode" "I", Cond.methodLink RX2 152 yX0_bothOpen, Cond.instanceMethod yX0_bothOpen, Cond.selects RX0 yX0_bothOpen yX0_bothOpen, Cond.initialized RX0, Cond.code yX0_bothOpen cX0_bothOpen 2 (some .boolean), Cond.fieldLink RX0 18 "PressGuard$Faults" "firstValve" "I", Cond.fieldLink RX0 21 "PressGuard$Faults" "secondValve" "I", Cond.methodLink RX0 28 yX0_valveIs, Cond.static yX0_valveIs, Cond.code yX0_valveIs cX0_valveIs 2 (some .int), Cond.static yX8_pairCount, Cond.initialized RX8, Cond.code yX8_pairCount cX8_pairCount 2 (some .int), Cond.methodLink RX8 211 yX8_bit, Cond.static yX8_bit]
def wsX2_moveSlide_r2 : List Cond := [Cond.code yX8_bit cX8_bit 2 (some .int), Cond.methodLink RX2 108 yX2_isMuted, Cond.instanceMethod yX2_isMuted, Cond.selects RX2 yX2_isMuted yX2_isMuted, Cond.initialized RX2, Cond.code yX2_isMuted cX2_isMuted 1 (some .boolean), Cond.fieldLink RX2 21 "PressGuard$Press" "muting" "I", Cond.methodLink RX2 158 yX2_arriveAtTop, Cond.instanceMethod yX2_arriveAtTop, Cond.selects RX2 yX2_arriveAtTop yX2_arriveAtTop, Cond.code yX2_arriveAtTop cX2_arriveAtTop 1 none, Cond.fieldLink RX2 57 "PressGuard$Press" "rounds" "I"]
def wsX2_moveSlide : List Cond := .code yX2_moveSlide cX2_moveSlide 2 none :: ((wsX2_moveSlide_r1 ++ wsX2_moveSlide_r2) ++ wsX20 ++ wsX50 ++ wsX00)
def wsX2_advance_r1 : List Cond := [Cond.fieldLink RX2 64 "PressGuard$Press" "faults" "LPressGuard$Faults;", Cond.fieldLink RX2 27 "PressGuard$Press" "leftApart" "I", Cond.fieldLink RX2 30 "PressGuard$Press" "rightApart" "I", Cond.fieldLink RX2 33 "PressGuard$Press" "curtainApart" "I", Cond.fieldLink RX2 15 "PressGuard$Press" "hands" "I", Cond.fieldLink RX2 39 "PressGuard$Press" "command" "I", Cond.fieldLink RX2 36 "PressGuard$Press" "unlike" "I", Cond.fieldLink RX2 9 "PressGuard$Press" "mode" "I", Cond.fieldLink RX2 48 "PressGuard$Press" "resetSeen" "I", Cond.methodLink RX2 80 yX0_seenOf, Cond.instanceMethod yX0_seenOf, Cond.selects RX0 yX0_seenOf yX0_seenOf, Cond.initialized RX0, Cond.code yX0_seenOf cX0_seenOf 2 (some .int), Cond.fieldLink RX0 15 "PressGuard$Faults" "stuckOn" "I", Cond.fieldLink RX0 9 "PressGuard$Faults" "stuckOff" "I", Cond.methodLink RX2 86 yX2_apartThen, Cond.static yX2_apartThen, Cond.initialized RX2, Cond.code yX2_apartThen cX2_apartThen 3 (some .int), Cond.static yX8_pairCount, Cond.initialized RX8, Cond.code yX8_pairCount cX8_pairCount 2 (some .int), Cond.methodLink RX8 211 yX8_bit]
def wsX2_advance_r2 : List Cond := [Cond.static yX8_bit, Cond.code yX8_bit cX8_bit 2 (some .int), Cond.methodLink RX2 101 yX2_oneMore, Cond.static yX2_oneMore, Cond.code yX2_oneMore cX2_oneMore 1 (some .int), Cond.methodLink RX2 122 Lib.Math.min.name, Cond.static Lib.Math.min.name, Cond.initialized "java/lang/Math", Cond.code Lib.Math.min.name Lib.Math.min.code 2 (some .int), Cond.methodLink RX2 90 yX2_moveMuting, Cond.instanceMethod yX2_moveMuting, Cond.selects RX2 yX2_moveMuting yX2_moveMuting, Cond.code yX2_moveMuting cX2_moveMuting 2 none, Cond.fieldLink RX2 21 "PressGuard$Press" "muting" "I", Cond.fieldLink RX2 24 "PressGuard$Press" "mutedFor" "I", Cond.fieldLink RX2 60 "PressGuard$Press" "settings" "LPressGuard$Settings;", Cond.fieldLink RX2 131 "PressGuard$Settings" "limit" "I", Cond.methodLink RX2 127 yX2_mutingThen, Cond.instanceMethod yX2_mutingThen, Cond.selects RX2 yX2_mutingThen yX2_mutingThen, Cond.code yX2_mutingThen cX2_mutingThen 3 (some .int), Cond.methodLink RX2 108 yX2_isMuted, Cond.instanceMethod yX2_isMuted, Cond.selects RX2 yX2_isMuted yX2_isMuted]
def wsX2_advance_r3 : List Cond := [Cond.code yX2_isMuted cX2_isMuted 1 (some .boolean), Cond.methodLink RX2 94 yX2_moveHands, Cond.instanceMethod yX2_moveHands, Cond.selects RX2 yX2_moveHands yX2_moveHands, Cond.code yX2_moveHands cX2_moveHands 4 none, Cond.fieldLink RX2 18 "PressGuard$Press" "since" "I", Cond.methodLink RX2 136 yX2_handsThen, Cond.instanceMethod yX2_handsThen, Cond.selects RX2 yX2_handsThen yX2_handsThen, Cond.code yX2_handsThen cX2_handsThen 3 (some .int), Cond.fieldLink RX2 139 "PressGuard$Settings" "span" "I", Cond.methodLink RX2 97 yX0_valvesObey, Cond.instanceMethod yX0_valvesObey, Cond.selects RX0 yX0_valvesObey yX0_valvesObey, Cond.code yX0_valvesObey cX0_valvesObey 2 (some .boolean), Cond.fieldLink RX0 18 "PressGuard$Faults" "firstValve" "I", Cond.fieldLink RX0 21 "PressGuard$Faults" "secondValve" "I", Cond.methodLink RX0 28 yX0_valveIs, Cond.static yX0_valveIs, Cond.code yX0_valveIs cX0_valveIs 2 (some .int), Cond.methodLink RX2 112 yX2_changeMode, Cond.instanceMethod yX2_changeMode, Cond.selects RX2 yX2_changeMode yX2_changeMode, Cond.code yX2_changeMode cX2_changeMode 7 none]
def wsX2_advance_r4 : List Cond := [Cond.fieldLink RX2 42 "PressGuard$Press" "position" "I", Cond.fieldLink RX2 51 "PressGuard$Press" "lockedBy" "I", Cond.fieldLink RX2 149 "PressGuard$Settings" "bottom" "I", Cond.methodLink RX2 145 yX2_leastCause, Cond.instanceMethod yX2_leastCause, Cond.selects RX2 yX2_leastCause yX2_leastCause, Cond.code yX2_leastCause cX2_leastCause 1 (some .int), Cond.fieldLink RX2 142 "PressGuard$Settings" "patience" "I", Cond.methodLink RX2 116 yX2_moveSlide, Cond.instanceMethod yX2_moveSlide, Cond.selects RX2 yX2_moveSlide yX2_moveSlide, Cond.code yX2_moveSlide cX2_moveSlide 2 none, Cond.fieldLink RX2 155 "PressGuard$Settings" "overrun" "I", Cond.fieldLink RX2 45 "PressGuard$Press" "brake" "I", Cond.fieldLink RX2 54 "PressGuard$Press" "dangers" "I", Cond.methodLink RX2 152 yX0_bothOpen, Cond.instanceMethod yX0_bothOpen, Cond.selects RX0 yX0_bothOpen yX0_bothOpen, Cond.code yX0_bothOpen cX0_bothOpen 2 (some .boolean), Cond.methodLink RX2 158 yX2_arriveAtTop, Cond.instanceMethod yX2_arriveAtTop, Cond.selects RX2 yX2_arriveAtTop yX2_arriveAtTop, Cond.code yX2_arriveAtTop cX2_arriveAtTop 1 none, Cond.fieldLink RX2 57 "PressGuard$Press" "rounds" "I"]
def wsX2_advance : List Cond := .code yX2_advance cX2_advance 6 none :: ((wsX2_advance_r1 ++ (wsX2_advance_r2 ++ (wsX2_advance_r3 ++ wsX2_advance_r4))) ++ wsX20 ++ wsX00 ++ wsX50)
def wsX3_init : List Cond := .code yX3_init cX3_init 1 none :: ([.methodLink RX3 3 objectInit, .instanceMethod objectInit, .code objectInit ⟨#[0xb1]⟩ 1 none, .arrayClass .int, .fieldLink RX3 9 "PressGuard$Script" "sets" "[I", .fieldLink RX3 15 "PressGuard$Script" "count" "I"] ++ wsX30)
def wsX3_append : List Cond := .code yX3_append cX3_append 2 none :: ([.fieldLink RX3 15 "PressGuard$Script" "count" "I", .fieldLink RX3 9 "PressGuard$Script" "sets" "[I", .static yX8_within, .initialized RX8, .code yX8_within cX8_within 3 (some .boolean)] ++ wsX30)
def wsX3_setAt : List Cond := .code yX3_setAt cX3_setAt 2 (some .int) :: ([.fieldLink RX3 9 "PressGuard$Script" "sets" "[I", .static yX8_within, .initialized RX8, .code yX8_within cX8_within 3 (some .boolean)] ++ wsX30)
def wsX4_init_r1 : List Cond := [Cond.methodLink RX4 3 objectInit, Cond.instanceMethod objectInit, Cond.code objectInit ⟨#[0xb1]⟩ 1 none, Cond.classLink RX4 9 RX2, Cond.fieldLink RX4 11 "PressGuard$Search" "path" "[LPressGuard$Press;", Cond.arrayClass .long, Cond.fieldLink RX4 17 "PressGuard$Search" "table" "[J", Cond.arrayClass .int, Cond.fieldLink RX4 21 "PressGuard$Search" "fewest" "[I", Cond.fieldLink RX4 25 "PressGuard$Search" "choices" "[I", Cond.fieldLink RX4 28 "PressGuard$Search" "choiceCount" "I", Cond.fieldLink RX4 32 "PressGuard$Search" "states" "I", Cond.fieldLink RX4 35 "PressGuard$Search" "mostDangers" "I", Cond.instantiable RX2 18, Cond.initialized RX2, Cond.methodLink RX4 38 yX2_init, Cond.instanceMethod yX2_init, Cond.code yX2_init cX2_init 3 none, Cond.methodLink RX2 3 objectInit, Cond.fieldLink RX2 9 "PressGuard$Press" "mode" "I", Cond.fieldLink RX2 15 "PressGuard$Press" "hands" "I", Cond.fieldLink RX2 18 "PressGuard$Press" "since" "I", Cond.fieldLink RX2 21 "PressGuard$Press" "muting" "I", Cond.fieldLink RX2 24 "PressGuard$Press" "mutedFor" "I"]
def wsX4_init_r2 : List Cond := [Cond.fieldLink RX2 27 "PressGuard$Press" "leftApart" "I", Cond.fieldLink RX2 30 "PressGuard$Press" "rightApart" "I", Cond.fieldLink RX2 33 "PressGuard$Press" "curtainApart" "I", Cond.fieldLink RX2 36 "PressGuard$Press" "unlike" "I", Cond.fieldLink RX2 39 "PressGuard$Press" "command" "I", Cond.fieldLink RX2 42 "PressGuard$Press" "position" "I", Cond.fieldLink RX2 45 "PressGuard$Press" "brake" "I", Cond.fieldLink RX2 48 "PressGuard$Press" "resetSeen" "I", Cond.fieldLink RX2 51 "PressGuard$Press" "lockedBy" "I", Cond.fieldLink RX2 54 "PressGuard$Press" "dangers" "I", Cond.fieldLink RX2 57 "PressGuard$Press" "rounds" "I", Cond.fieldLink RX2 60 "PressGuard$Press" "settings" "LPressGuard$Settings;", Cond.fieldLink RX2 64 "PressGuard$Press" "faults" "LPressGuard$Faults;"]
def wsX4_init : List Cond := .code yX4_init cX4_init 4 none :: ((wsX4_init_r1 ++ wsX4_init_r2) ++ wsX40 ++ wsX20)
def wsJ7_fill_d0a16 : List Cond := .code yJ7_fill_d0a16 cJ7_fill_d0a16 5 none :: ([])
def wsJ6_bitCount_0f7a4 : List Cond := .code yJ6_bitCount_0f7a4 cJ6_bitCount_0f7a4 1 (some .int) :: ([.constant RJ6 265 (1431655765), .constant RJ6 266 (858993459), .constant RJ6 267 (252645135)])
def wsX4_chooseSets : List Cond := .code yX4_chooseSets cX4_chooseSets 6 none :: ([.fieldLink RX4 25 "PressGuard$Search" "choices" "[I", .methodLink RX4 75 Lib.Math.min.name, .static Lib.Math.min.name, .initialized "java/lang/Math", .code Lib.Math.min.name Lib.Math.min.code 2 (some .int), .fieldLink RX4 28 "PressGuard$Search" "choiceCount" "I", .methodLink RX4 69 yJ6_bitCount_0f7a4, .static yJ6_bitCount_0f7a4, .initialized RJ6, .code yJ6_bitCount_0f7a4 cJ6_bitCount_0f7a4 1 (some .int), .constant RJ6 265 (1431655765), .constant RJ6 266 (858993459), .constant RJ6 267 (252645135)] ++ wsX40)
def wsX4_addState : List Cond := .code yX4_addState cX4_addState 6 none :: ([.constantLong RX4 103 (-7046029254386353131), .fieldLink RX4 17 "PressGuard$Search" "table" "[J", .fieldLink RX4 32 "PressGuard$Search" "states" "I"] ++ wsX40)
def wsX4_meet_r1 : List Cond := [Cond.fieldLink RX4 35 "PressGuard$Search" "mostDangers" "I", Cond.fieldLink RX4 58 "PressGuard$Press" "dangers" "I", Cond.methodLink RX4 97 Lib.Math.max.name, Cond.static Lib.Math.max.name, Cond.initialized "java/lang/Math", Cond.code Lib.Math.max.name Lib.Math.max.code 2 (some .int), Cond.fieldLink RX4 100 "PressGuard$Press" "mode" "I", Cond.fieldLink RX4 21 "PressGuard$Search" "fewest" "[I", Cond.methodLink RX4 89 yX2_stateNumber, Cond.instanceMethod yX2_stateNumber, Cond.selects RX2 yX2_stateNumber yX2_stateNumber, Cond.initialized RX2, Cond.code yX2_stateNumber cX2_stateNumber 3 (some .long), Cond.constantLong RX2 68 (5), Cond.fieldLink RX2 9 "PressGuard$Press" "mode" "I", Cond.constantLong RX2 70 (4), Cond.fieldLink RX2 15 "PressGuard$Press" "hands" "I", Cond.constantLong RX2 72 (10), Cond.fieldLink RX2 18 "PressGuard$Press" "since" "I", Cond.fieldLink RX2 21 "PressGuard$Press" "muting" "I", Cond.constantLong RX2 74 (31), Cond.fieldLink RX2 24 "PressGuard$Press" "mutedFor" "I", Cond.fieldLink RX2 27 "PressGuard$Press" "leftApart" "I", Cond.fieldLink RX2 30 "PressGuard$Press" "rightApart" "I"]
def wsX4_meet_r2 : List Cond := [Cond.fieldLink RX2 33 "PressGuard$Press" "curtainApart" "I", Cond.fieldLink RX2 36 "PressGuard$Press" "unlike" "I", Cond.constantLong RX2 76 (2), Cond.fieldLink RX2 39 "PressGuard$Press" "command" "I", Cond.constantLong RX2 78 (18), Cond.fieldLink RX2 42 "PressGuard$Press" "position" "I", Cond.fieldLink RX2 45 "PressGuard$Press" "brake" "I", Cond.fieldLink RX2 48 "PressGuard$Press" "resetSeen" "I", Cond.methodLink RX4 93 yX4_addState, Cond.instanceMethod yX4_addState, Cond.selects RX4 yX4_addState yX4_addState, Cond.initialized RX4, Cond.code yX4_addState cX4_addState 6 none, Cond.constantLong RX4 103 (-7046029254386353131), Cond.fieldLink RX4 17 "PressGuard$Search" "table" "[J", Cond.fieldLink RX4 32 "PressGuard$Search" "states" "I", Cond.static yX8_within, Cond.initialized RX8, Cond.code yX8_within cX8_within 3 (some .boolean)]
def wsX4_meet : List Cond := .code yX4_meet cX4_meet 4 none :: ((wsX4_meet_r1 ++ wsX4_meet_r2) ++ wsX40 ++ wsX20)
def wsX4_goOn_r1 : List Cond := [Cond.fieldLink RX4 11 "PressGuard$Search" "path" "[LPressGuard$Press;", Cond.fieldLink RX4 28 "PressGuard$Search" "choiceCount" "I", Cond.fieldLink RX4 25 "PressGuard$Search" "choices" "[I", Cond.static yX8_within, Cond.initialized RX8, Cond.code yX8_within cX8_within 3 (some .boolean), Cond.methodLink RX4 81 yX4_meet, Cond.instanceMethod yX4_meet, Cond.selects RX4 yX4_meet yX4_meet, Cond.initialized RX4, Cond.code yX4_meet cX4_meet 4 none, Cond.fieldLink RX4 35 "PressGuard$Search" "mostDangers" "I", Cond.fieldLink RX4 58 "PressGuard$Press" "dangers" "I", Cond.methodLink RX4 97 Lib.Math.max.name, Cond.static Lib.Math.max.name, Cond.initialized "java/lang/Math", Cond.code Lib.Math.max.name Lib.Math.max.code 2 (some .int), Cond.fieldLink RX4 100 "PressGuard$Press" "mode" "I", Cond.fieldLink RX4 21 "PressGuard$Search" "fewest" "[I", Cond.methodLink RX4 89 yX2_stateNumber, Cond.instanceMethod yX2_stateNumber, Cond.selects RX2 yX2_stateNumber yX2_stateNumber, Cond.initialized RX2, Cond.code yX2_stateNumber cX2_stateNumber 3 (some .long)]
def wsX4_goOn_r2 : List Cond := [Cond.constantLong RX2 68 (5), Cond.fieldLink RX2 9 "PressGuard$Press" "mode" "I", Cond.constantLong RX2 70 (4), Cond.fieldLink RX2 15 "PressGuard$Press" "hands" "I", Cond.constantLong RX2 72 (10), Cond.fieldLink RX2 18 "PressGuard$Press" "since" "I", Cond.fieldLink RX2 21 "PressGuard$Press" "muting" "I", Cond.constantLong RX2 74 (31), Cond.fieldLink RX2 24 "PressGuard$Press" "mutedFor" "I", Cond.fieldLink RX2 27 "PressGuard$Press" "leftApart" "I", Cond.fieldLink RX2 30 "PressGuard$Press" "rightApart" "I", Cond.fieldLink RX2 33 "PressGuard$Press" "curtainApart" "I", Cond.fieldLink RX2 36 "PressGuard$Press" "unlike" "I", Cond.constantLong RX2 76 (2), Cond.fieldLink RX2 39 "PressGuard$Press" "command" "I", Cond.constantLong RX2 78 (18), Cond.fieldLink RX2 42 "PressGuard$Press" "position" "I", Cond.fieldLink RX2 45 "PressGuard$Press" "brake" "I", Cond.fieldLink RX2 48 "PressGuard$Press" "resetSeen" "I", Cond.methodLink RX4 93 yX4_addState, Cond.instanceMethod yX4_addState, Cond.selects RX4 yX4_addState yX4_addState, Cond.code yX4_addState cX4_addState 6 none, Cond.constantLong RX4 103 (-7046029254386353131)]
def wsX4_goOn_r3 : List Cond := [Cond.fieldLink RX4 17 "PressGuard$Search" "table" "[J", Cond.fieldLink RX4 32 "PressGuard$Search" "states" "I", Cond.methodLink RX4 54 yX2_copyFrom, Cond.instanceMethod yX2_copyFrom, Cond.selects RX2 yX2_copyFrom yX2_copyFrom, Cond.code yX2_copyFrom cX2_copyFrom 2 none, Cond.fieldLink RX2 51 "PressGuard$Press" "lockedBy" "I", Cond.fieldLink RX2 54 "PressGuard$Press" "dangers" "I", Cond.fieldLink RX2 57 "PressGuard$Press" "rounds" "I", Cond.methodLink RX4 85 yX2_advance, Cond.instanceMethod yX2_advance, Cond.selects RX2 yX2_advance yX2_advance, Cond.code yX2_advance cX2_advance 6 none, Cond.fieldLink RX2 64 "PressGuard$Press" "faults" "LPressGuard$Faults;", Cond.methodLink RX2 80 yX0_seenOf, Cond.instanceMethod yX0_seenOf, Cond.selects RX0 yX0_seenOf yX0_seenOf, Cond.initialized RX0, Cond.code yX0_seenOf cX0_seenOf 2 (some .int), Cond.fieldLink RX0 15 "PressGuard$Faults" "stuckOn" "I", Cond.fieldLink RX0 9 "PressGuard$Faults" "stuckOff" "I", Cond.methodLink RX2 86 yX2_apartThen, Cond.static yX2_apartThen, Cond.code yX2_apartThen cX2_apartThen 3 (some .int)]
def wsX4_goOn_r4 : List Cond := [Cond.static yX8_pairCount, Cond.code yX8_pairCount cX8_pairCount 2 (some .int), Cond.methodLink RX8 211 yX8_bit, Cond.static yX8_bit, Cond.code yX8_bit cX8_bit 2 (some .int), Cond.methodLink RX2 101 yX2_oneMore, Cond.static yX2_oneMore, Cond.code yX2_oneMore cX2_oneMore 1 (some .int), Cond.methodLink RX2 122 Lib.Math.min.name, Cond.static Lib.Math.min.name, Cond.code Lib.Math.min.name Lib.Math.min.code 2 (some .int), Cond.methodLink RX2 90 yX2_moveMuting, Cond.instanceMethod yX2_moveMuting, Cond.selects RX2 yX2_moveMuting yX2_moveMuting, Cond.code yX2_moveMuting cX2_moveMuting 2 none, Cond.fieldLink RX2 60 "PressGuard$Press" "settings" "LPressGuard$Settings;", Cond.fieldLink RX2 131 "PressGuard$Settings" "limit" "I", Cond.methodLink RX2 127 yX2_mutingThen, Cond.instanceMethod yX2_mutingThen, Cond.selects RX2 yX2_mutingThen yX2_mutingThen, Cond.code yX2_mutingThen cX2_mutingThen 3 (some .int), Cond.methodLink RX2 108 yX2_isMuted, Cond.instanceMethod yX2_isMuted, Cond.selects RX2 yX2_isMuted yX2_isMuted]
def wsX4_goOn_r5 : List Cond := [Cond.code yX2_isMuted cX2_isMuted 1 (some .boolean), Cond.methodLink RX2 94 yX2_moveHands, Cond.instanceMethod yX2_moveHands, Cond.selects RX2 yX2_moveHands yX2_moveHands, Cond.code yX2_moveHands cX2_moveHands 4 none, Cond.methodLink RX2 136 yX2_handsThen, Cond.instanceMethod yX2_handsThen, Cond.selects RX2 yX2_handsThen yX2_handsThen, Cond.code yX2_handsThen cX2_handsThen 3 (some .int), Cond.fieldLink RX2 139 "PressGuard$Settings" "span" "I", Cond.methodLink RX2 97 yX0_valvesObey, Cond.instanceMethod yX0_valvesObey, Cond.selects RX0 yX0_valvesObey yX0_valvesObey, Cond.code yX0_valvesObey cX0_valvesObey 2 (some .boolean), Cond.fieldLink RX0 18 "PressGuard$Faults" "firstValve" "I", Cond.fieldLink RX0 21 "PressGuard$Faults" "secondValve" "I", Cond.methodLink RX0 28 yX0_valveIs, Cond.static yX0_valveIs, Cond.code yX0_valveIs cX0_valveIs 2 (some .int), Cond.methodLink RX2 112 yX2_changeMode, Cond.instanceMethod yX2_changeMode, Cond.selects RX2 yX2_changeMode yX2_changeMode, Cond.code yX2_changeMode cX2_changeMode 7 none, Cond.fieldLink RX2 149 "PressGuard$Settings" "bottom" "I"]
def wsX4_goOn_r6 : List Cond := [Cond.methodLink RX2 145 yX2_leastCause, Cond.instanceMethod yX2_leastCause, Cond.selects RX2 yX2_leastCause yX2_leastCause, Cond.code yX2_leastCause cX2_leastCause 1 (some .int), Cond.fieldLink RX2 142 "PressGuard$Settings" "patience" "I", Cond.methodLink RX2 116 yX2_moveSlide, Cond.instanceMethod yX2_moveSlide, Cond.selects RX2 yX2_moveSlide yX2_moveSlide, Cond.code yX2_moveSlide cX2_moveSlide 2 none, Cond.fieldLink RX2 155 "PressGuard$Settings" "overrun" "I", Cond.methodLink RX2 152 yX0_bothOpen, Cond.instanceMethod yX0_bothOpen, Cond.selects RX0 yX0_bothOpen yX0_bothOpen, Cond.code yX0_bothOpen cX0_bothOpen 2 (some .boolean), Cond.methodLink RX2 158 yX2_arriveAtTop, Cond.instanceMethod yX2_arriveAtTop, Cond.selects RX2 yX2_arriveAtTop yX2_arriveAtTop, Cond.code yX2_arriveAtTop cX2_arriveAtTop 1 none, Cond.methodLink RX4 61 yX4_goOn, Cond.static yX4_goOn]
def wsX4_goOn : List Cond := .code yX4_goOn cX4_goOn 6 none :: ((wsX4_goOn_r1 ++ (wsX4_goOn_r2 ++ (wsX4_goOn_r3 ++ (wsX4_goOn_r4 ++ (wsX4_goOn_r5 ++ wsX4_goOn_r6))))) ++ wsX40 ++ wsX20 ++ wsX00 ++ wsX50)
def wsX4_run_r1 : List Cond := [Cond.fieldLink RX4 17 "PressGuard$Search" "table" "[J", Cond.fieldLink RX4 21 "PressGuard$Search" "fewest" "[I", Cond.fieldLink RX4 32 "PressGuard$Search" "states" "I", Cond.fieldLink RX4 35 "PressGuard$Search" "mostDangers" "I", Cond.fieldLink RX4 11 "PressGuard$Search" "path" "[LPressGuard$Press;", Cond.fieldLink RX4 58 "PressGuard$Press" "dangers" "I", Cond.methodLink RX4 41 yJ7_fill_d0a16, Cond.static yJ7_fill_d0a16, Cond.initialized RJ7, Cond.code yJ7_fill_d0a16 cJ7_fill_d0a16 5 none, Cond.methodLink RX4 47 yJ7_fill_53178, Cond.static yJ7_fill_53178, Cond.code yJ7_fill_53178 cJ7_fill_53178 4 none, Cond.methodLink RX4 50 yX4_chooseSets, Cond.instanceMethod yX4_chooseSets, Cond.selects RX4 yX4_chooseSets yX4_chooseSets, Cond.initialized RX4, Cond.code yX4_chooseSets cX4_chooseSets 6 none, Cond.fieldLink RX4 25 "PressGuard$Search" "choices" "[I", Cond.methodLink RX4 75 Lib.Math.min.name, Cond.static Lib.Math.min.name, Cond.initialized "java/lang/Math", Cond.code Lib.Math.min.name Lib.Math.min.code 2 (some .int), Cond.fieldLink RX4 28 "PressGuard$Search" "choiceCount" "I"]
def wsX4_run_r2 : List Cond := [Cond.methodLink RX4 69 yJ6_bitCount_0f7a4, Cond.static yJ6_bitCount_0f7a4, Cond.initialized RJ6, Cond.code yJ6_bitCount_0f7a4 cJ6_bitCount_0f7a4 1 (some .int), Cond.constant RJ6 265 (1431655765), Cond.constant RJ6 266 (858993459), Cond.constant RJ6 267 (252645135), Cond.methodLink RX4 54 yX2_copyFrom, Cond.instanceMethod yX2_copyFrom, Cond.selects RX2 yX2_copyFrom yX2_copyFrom, Cond.initialized RX2, Cond.code yX2_copyFrom cX2_copyFrom 2 none, Cond.fieldLink RX2 9 "PressGuard$Press" "mode" "I", Cond.fieldLink RX2 15 "PressGuard$Press" "hands" "I", Cond.fieldLink RX2 18 "PressGuard$Press" "since" "I", Cond.fieldLink RX2 21 "PressGuard$Press" "muting" "I", Cond.fieldLink RX2 24 "PressGuard$Press" "mutedFor" "I", Cond.fieldLink RX2 27 "PressGuard$Press" "leftApart" "I", Cond.fieldLink RX2 30 "PressGuard$Press" "rightApart" "I", Cond.fieldLink RX2 33 "PressGuard$Press" "curtainApart" "I", Cond.fieldLink RX2 36 "PressGuard$Press" "unlike" "I", Cond.fieldLink RX2 39 "PressGuard$Press" "command" "I", Cond.fieldLink RX2 42 "PressGuard$Press" "position" "I", Cond.fieldLink RX2 45 "PressGuard$Press" "brake" "I"]
def wsX4_run_r3 : List Cond := [Cond.fieldLink RX2 48 "PressGuard$Press" "resetSeen" "I", Cond.fieldLink RX2 51 "PressGuard$Press" "lockedBy" "I", Cond.fieldLink RX2 54 "PressGuard$Press" "dangers" "I", Cond.fieldLink RX2 57 "PressGuard$Press" "rounds" "I", Cond.methodLink RX4 61 yX4_goOn, Cond.static yX4_goOn, Cond.code yX4_goOn cX4_goOn 6 none, Cond.static yX8_within, Cond.initialized RX8, Cond.code yX8_within cX8_within 3 (some .boolean), Cond.methodLink RX4 81 yX4_meet, Cond.instanceMethod yX4_meet, Cond.selects RX4 yX4_meet yX4_meet, Cond.code yX4_meet cX4_meet 4 none, Cond.methodLink RX4 97 Lib.Math.max.name, Cond.static Lib.Math.max.name, Cond.code Lib.Math.max.name Lib.Math.max.code 2 (some .int), Cond.fieldLink RX4 100 "PressGuard$Press" "mode" "I", Cond.methodLink RX4 89 yX2_stateNumber, Cond.instanceMethod yX2_stateNumber, Cond.selects RX2 yX2_stateNumber yX2_stateNumber, Cond.code yX2_stateNumber cX2_stateNumber 3 (some .long), Cond.constantLong RX2 68 (5), Cond.constantLong RX2 70 (4)]
def wsX4_run_r4 : List Cond := [Cond.constantLong RX2 72 (10), Cond.constantLong RX2 74 (31), Cond.constantLong RX2 76 (2), Cond.constantLong RX2 78 (18), Cond.methodLink RX4 93 yX4_addState, Cond.instanceMethod yX4_addState, Cond.selects RX4 yX4_addState yX4_addState, Cond.code yX4_addState cX4_addState 6 none, Cond.constantLong RX4 103 (-7046029254386353131), Cond.methodLink RX4 85 yX2_advance, Cond.instanceMethod yX2_advance, Cond.selects RX2 yX2_advance yX2_advance, Cond.code yX2_advance cX2_advance 6 none, Cond.fieldLink RX2 64 "PressGuard$Press" "faults" "LPressGuard$Faults;", Cond.methodLink RX2 80 yX0_seenOf, Cond.instanceMethod yX0_seenOf, Cond.selects RX0 yX0_seenOf yX0_seenOf, Cond.initialized RX0, Cond.code yX0_seenOf cX0_seenOf 2 (some .int), Cond.fieldLink RX0 15 "PressGuard$Faults" "stuckOn" "I", Cond.fieldLink RX0 9 "PressGuard$Faults" "stuckOff" "I", Cond.methodLink RX2 86 yX2_apartThen, Cond.static yX2_apartThen, Cond.code yX2_apartThen cX2_apartThen 3 (some .int)]
def wsX4_run_r5 : List Cond := [Cond.static yX8_pairCount, Cond.code yX8_pairCount cX8_pairCount 2 (some .int), Cond.methodLink RX8 211 yX8_bit, Cond.static yX8_bit, Cond.code yX8_bit cX8_bit 2 (some .int), Cond.methodLink RX2 101 yX2_oneMore, Cond.static yX2_oneMore, Cond.code yX2_oneMore cX2_oneMore 1 (some .int), Cond.methodLink RX2 122 Lib.Math.min.name, Cond.methodLink RX2 90 yX2_moveMuting, Cond.instanceMethod yX2_moveMuting, Cond.selects RX2 yX2_moveMuting yX2_moveMuting, Cond.code yX2_moveMuting cX2_moveMuting 2 none, Cond.fieldLink RX2 60 "PressGuard$Press" "settings" "LPressGuard$Settings;", Cond.fieldLink RX2 131 "PressGuard$Settings" "limit" "I", Cond.methodLink RX2 127 yX2_mutingThen, Cond.instanceMethod yX2_mutingThen, Cond.selects RX2 yX2_mutingThen yX2_mutingThen, Cond.code yX2_mutingThen cX2_mutingThen 3 (some .int), Cond.methodLink RX2 108 yX2_isMuted, Cond.instanceMethod yX2_isMuted, Cond.selects RX2 yX2_isMuted yX2_isMuted, Cond.code yX2_isMuted cX2_isMuted 1 (some .boolean), Cond.methodLink RX2 94 yX2_moveHands]
def wsX4_run_r6 : List Cond := [Cond.instanceMethod yX2_moveHands, Cond.selects RX2 yX2_moveHands yX2_moveHands, Cond.code yX2_moveHands cX2_moveHands 4 none, Cond.methodLink RX2 136 yX2_handsThen, Cond.instanceMethod yX2_handsThen, Cond.selects RX2 yX2_handsThen yX2_handsThen, Cond.code yX2_handsThen cX2_handsThen 3 (some .int), Cond.fieldLink RX2 139 "PressGuard$Settings" "span" "I", Cond.methodLink RX2 97 yX0_valvesObey, Cond.instanceMethod yX0_valvesObey, Cond.selects RX0 yX0_valvesObey yX0_valvesObey, Cond.code yX0_valvesObey cX0_valvesObey 2 (some .boolean), Cond.fieldLink RX0 18 "PressGuard$Faults" "firstValve" "I", Cond.fieldLink RX0 21 "PressGuard$Faults" "secondValve" "I", Cond.methodLink RX0 28 yX0_valveIs, Cond.static yX0_valveIs, Cond.code yX0_valveIs cX0_valveIs 2 (some .int), Cond.methodLink RX2 112 yX2_changeMode, Cond.instanceMethod yX2_changeMode, Cond.selects RX2 yX2_changeMode yX2_changeMode, Cond.code yX2_changeMode cX2_changeMode 7 none, Cond.fieldLink RX2 149 "PressGuard$Settings" "bottom" "I", Cond.methodLink RX2 145 yX2_leastCause, Cond.instanceMethod yX2_leastCause]
def wsX4_run_r7 : List Cond := [Cond.selects RX2 yX2_leastCause yX2_leastCause, Cond.code yX2_leastCause cX2_leastCause 1 (some .int), Cond.fieldLink RX2 142 "PressGuard$Settings" "patience" "I", Cond.methodLink RX2 116 yX2_moveSlide, Cond.instanceMethod yX2_moveSlide, Cond.selects RX2 yX2_moveSlide yX2_moveSlide, Cond.code yX2_moveSlide cX2_moveSlide 2 none, Cond.fieldLink RX2 155 "PressGuard$Settings" "overrun" "I", Cond.methodLink RX2 152 yX0_bothOpen, Cond.instanceMethod yX0_bothOpen, Cond.selects RX0 yX0_bothOpen yX0_bothOpen, Cond.code yX0_bothOpen cX0_bothOpen 2 (some .boolean), Cond.methodLink RX2 158 yX2_arriveAtTop, Cond.instanceMethod yX2_arriveAtTop, Cond.selects RX2 yX2_arriveAtTop yX2_arriveAtTop, Cond.code yX2_arriveAtTop cX2_arriveAtTop 1 none]
def wsX4_run : List Cond := .code yX4_run cX4_run 6 none :: ((wsX4_run_r1 ++ (wsX4_run_r2 ++ (wsX4_run_r3 ++ (wsX4_run_r4 ++ (wsX4_run_r5 ++ (wsX4_run_r6 ++ wsX4_run_r7)))))) ++ wsX40 ++ wsX20 ++ wsX00 ++ wsX50)
def wsX4_part : List Cond := .code yX4_part cX4_part 2 (some .int) :: ([.fieldLink RX4 32 "PressGuard$Search" "states" "I", .fieldLink RX4 35 "PressGuard$Search" "mostDangers" "I", .fieldLink RX4 21 "PressGuard$Search" "fewest" "[I", .static yX8_within, .initialized RX8, .code yX8_within cX8_within 3 (some .boolean)] ++ wsX40)
def wsX5_init : List Cond := .code yX5_init cX5_init 1 none :: ([.methodLink RX5 3 objectInit, .instanceMethod objectInit, .code objectInit ⟨#[0xb1]⟩ 1 none, .fieldLink RX5 9 "PressGuard$Settings" "patience" "I", .fieldLink RX5 15 "PressGuard$Settings" "span" "I", .fieldLink RX5 18 "PressGuard$Settings" "limit" "I", .fieldLink RX5 21 "PressGuard$Settings" "overrun" "I", .fieldLink RX5 24 "PressGuard$Settings" "bottom" "I"] ++ wsX50)
def wsX5_become : List Cond := .code yX5_become cX5_become 6 none :: ([.fieldLink RX5 9 "PressGuard$Settings" "patience" "I", .fieldLink RX5 15 "PressGuard$Settings" "span" "I", .fieldLink RX5 18 "PressGuard$Settings" "limit" "I", .fieldLink RX5 21 "PressGuard$Settings" "overrun" "I", .fieldLink RX5 24 "PressGuard$Settings" "bottom" "I"] ++ wsX50)
def wsX5_part : List Cond := .code yX5_part cX5_part 2 (some .int) :: ([.fieldLink RX5 9 "PressGuard$Settings" "patience" "I", .fieldLink RX5 15 "PressGuard$Settings" "span" "I", .fieldLink RX5 18 "PressGuard$Settings" "limit" "I", .fieldLink RX5 21 "PressGuard$Settings" "overrun" "I", .fieldLink RX5 24 "PressGuard$Settings" "bottom" "I"] ++ wsX50)
def wsX6_init_r1 : List Cond := [Cond.methodLink RX6 3 objectInit, Cond.instanceMethod objectInit, Cond.code objectInit ⟨#[0xb1]⟩ 1 none, Cond.classLink RX6 9 RX0, Cond.instantiable RX0 4, Cond.initialized RX0, Cond.fieldLink RX6 12 "PressGuard$Trial" "faults" "LPressGuard$Faults;", Cond.fieldLink RX6 18 "PressGuard$Trial" "firstLock" "I", Cond.fieldLink RX6 22 "PressGuard$Trial" "firstCause" "I", Cond.classLink RX6 25 RX2, Cond.instantiable RX2 18, Cond.initialized RX2, Cond.fieldLink RX6 30 "PressGuard$Trial" "press" "LPressGuard$Press;", Cond.instanceMethod yX0_init, Cond.code yX0_init cX0_init 1 none, Cond.methodLink RX0 3 objectInit, Cond.fieldLink RX0 9 "PressGuard$Faults" "stuckOff" "I", Cond.fieldLink RX0 15 "PressGuard$Faults" "stuckOn" "I", Cond.fieldLink RX0 18 "PressGuard$Faults" "firstValve" "I", Cond.fieldLink RX0 21 "PressGuard$Faults" "secondValve" "I", Cond.methodLink RX6 27 yX2_init, Cond.instanceMethod yX2_init, Cond.code yX2_init cX2_init 3 none, Cond.methodLink RX2 3 objectInit]
def wsX6_init_r2 : List Cond := [Cond.fieldLink RX2 9 "PressGuard$Press" "mode" "I", Cond.fieldLink RX2 15 "PressGuard$Press" "hands" "I", Cond.fieldLink RX2 18 "PressGuard$Press" "since" "I", Cond.fieldLink RX2 21 "PressGuard$Press" "muting" "I", Cond.fieldLink RX2 24 "PressGuard$Press" "mutedFor" "I", Cond.fieldLink RX2 27 "PressGuard$Press" "leftApart" "I", Cond.fieldLink RX2 30 "PressGuard$Press" "rightApart" "I", Cond.fieldLink RX2 33 "PressGuard$Press" "curtainApart" "I", Cond.fieldLink RX2 36 "PressGuard$Press" "unlike" "I", Cond.fieldLink RX2 39 "PressGuard$Press" "command" "I", Cond.fieldLink RX2 42 "PressGuard$Press" "position" "I", Cond.fieldLink RX2 45 "PressGuard$Press" "brake" "I", Cond.fieldLink RX2 48 "PressGuard$Press" "resetSeen" "I", Cond.fieldLink RX2 51 "PressGuard$Press" "lockedBy" "I", Cond.fieldLink RX2 54 "PressGuard$Press" "dangers" "I", Cond.fieldLink RX2 57 "PressGuard$Press" "rounds" "I", Cond.fieldLink RX2 60 "PressGuard$Press" "settings" "LPressGuard$Settings;", Cond.fieldLink RX2 64 "PressGuard$Press" "faults" "LPressGuard$Faults;"]
def wsX6_init : List Cond := .code yX6_init cX6_init 2 none :: ((wsX6_init_r1 ++ wsX6_init_r2) ++ wsX00 ++ wsX60 ++ wsX20)
def wsX6_run_r1 : List Cond := [Cond.fieldLink RX6 12 "PressGuard$Trial" "faults" "LPressGuard$Faults;", Cond.fieldLink RX6 30 "PressGuard$Trial" "press" "LPressGuard$Press;", Cond.fieldLink RX6 18 "PressGuard$Trial" "firstLock" "I", Cond.fieldLink RX6 22 "PressGuard$Trial" "firstCause" "I", Cond.fieldLink RX6 40 "PressGuard$Script" "count" "I", Cond.fieldLink RX6 57 "PressGuard$Press" "mode" "I", Cond.fieldLink RX6 60 "PressGuard$Press" "lockedBy" "I", Cond.methodLink RX6 34 yX0_clear, Cond.instanceMethod yX0_clear, Cond.selects RX0 yX0_clear yX0_clear, Cond.initialized RX0, Cond.code yX0_clear cX0_clear 1 none, Cond.fieldLink RX0 9 "PressGuard$Faults" "stuckOff" "I", Cond.fieldLink RX0 15 "PressGuard$Faults" "stuckOn" "I", Cond.fieldLink RX0 18 "PressGuard$Faults" "firstValve" "I", Cond.fieldLink RX0 21 "PressGuard$Faults" "secondValve" "I", Cond.methodLink RX6 37 yX2_begin, Cond.instanceMethod yX2_begin, Cond.selects RX2 yX2_begin yX2_begin, Cond.initialized RX2, Cond.code yX2_begin cX2_begin 1 none, Cond.fieldLink RX2 9 "PressGuard$Press" "mode" "I", Cond.fieldLink RX2 15 "PressGuard$Press" "hands" "I", Cond.fieldLink RX2 18 "PressGuard$Press" "since" "I"]
def wsX6_run_r2 : List Cond := [Cond.fieldLink RX2 21 "PressGuard$Press" "muting" "I", Cond.fieldLink RX2 24 "PressGuard$Press" "mutedFor" "I", Cond.fieldLink RX2 27 "PressGuard$Press" "leftApart" "I", Cond.fieldLink RX2 30 "PressGuard$Press" "rightApart" "I", Cond.fieldLink RX2 33 "PressGuard$Press" "curtainApart" "I", Cond.fieldLink RX2 36 "PressGuard$Press" "unlike" "I", Cond.fieldLink RX2 39 "PressGuard$Press" "command" "I", Cond.fieldLink RX2 42 "PressGuard$Press" "position" "I", Cond.fieldLink RX2 45 "PressGuard$Press" "brake" "I", Cond.fieldLink RX2 48 "PressGuard$Press" "resetSeen" "I", Cond.fieldLink RX2 51 "PressGuard$Press" "lockedBy" "I", Cond.fieldLink RX2 54 "PressGuard$Press" "dangers" "I", Cond.fieldLink RX2 57 "PressGuard$Press" "rounds" "I", Cond.methodLink RX6 45 yX0_setInput, Cond.instanceMethod yX0_setInput, Cond.selects RX0 yX0_setInput yX0_setInput, Cond.code yX0_setInput cX0_setInput 4 none, Cond.methodLink RX6 49 yX3_setAt, Cond.instanceMethod yX3_setAt, Cond.selects RX3 yX3_setAt yX3_setAt, Cond.initialized RX3, Cond.code yX3_setAt cX3_setAt 2 (some .int), Cond.fieldLink RX3 9 "PressGuard$Script" "sets" "[I", Cond.static yX8_within]
def wsX6_run_r3 : List Cond := [Cond.initialized RX8, Cond.code yX8_within cX8_within 3 (some .boolean), Cond.methodLink RX6 53 yX2_advance, Cond.instanceMethod yX2_advance, Cond.selects RX2 yX2_advance yX2_advance, Cond.code yX2_advance cX2_advance 6 none, Cond.fieldLink RX2 64 "PressGuard$Press" "faults" "LPressGuard$Faults;", Cond.methodLink RX2 80 yX0_seenOf, Cond.instanceMethod yX0_seenOf, Cond.selects RX0 yX0_seenOf yX0_seenOf, Cond.code yX0_seenOf cX0_seenOf 2 (some .int), Cond.methodLink RX2 86 yX2_apartThen, Cond.static yX2_apartThen, Cond.code yX2_apartThen cX2_apartThen 3 (some .int), Cond.static yX8_pairCount, Cond.code yX8_pairCount cX8_pairCount 2 (some .int), Cond.methodLink RX8 211 yX8_bit, Cond.static yX8_bit, Cond.code yX8_bit cX8_bit 2 (some .int), Cond.methodLink RX2 101 yX2_oneMore, Cond.static yX2_oneMore, Cond.code yX2_oneMore cX2_oneMore 1 (some .int), Cond.methodLink RX2 122 Lib.Math.min.name, Cond.static Lib.Math.min.name]
def wsX6_run_r4 : List Cond := [Cond.initialized "java/lang/Math", Cond.code Lib.Math.min.name Lib.Math.min.code 2 (some .int), Cond.methodLink RX2 90 yX2_moveMuting, Cond.instanceMethod yX2_moveMuting, Cond.selects RX2 yX2_moveMuting yX2_moveMuting, Cond.code yX2_moveMuting cX2_moveMuting 2 none, Cond.fieldLink RX2 60 "PressGuard$Press" "settings" "LPressGuard$Settings;", Cond.fieldLink RX2 131 "PressGuard$Settings" "limit" "I", Cond.methodLink RX2 127 yX2_mutingThen, Cond.instanceMethod yX2_mutingThen, Cond.selects RX2 yX2_mutingThen yX2_mutingThen, Cond.code yX2_mutingThen cX2_mutingThen 3 (some .int), Cond.methodLink RX2 108 yX2_isMuted, Cond.instanceMethod yX2_isMuted, Cond.selects RX2 yX2_isMuted yX2_isMuted, Cond.code yX2_isMuted cX2_isMuted 1 (some .boolean), Cond.methodLink RX2 94 yX2_moveHands, Cond.instanceMethod yX2_moveHands, Cond.selects RX2 yX2_moveHands yX2_moveHands, Cond.code yX2_moveHands cX2_moveHands 4 none, Cond.methodLink RX2 136 yX2_handsThen, Cond.instanceMethod yX2_handsThen, Cond.selects RX2 yX2_handsThen yX2_handsThen, Cond.code yX2_handsThen cX2_handsThen 3 (some .int)]
def wsX6_run_r5 : List Cond := [Cond.fieldLink RX2 139 "PressGuard$Settings" "span" "I", Cond.methodLink RX2 97 yX0_valvesObey, Cond.instanceMethod yX0_valvesObey, Cond.selects RX0 yX0_valvesObey yX0_valvesObey, Cond.code yX0_valvesObey cX0_valvesObey 2 (some .boolean), Cond.methodLink RX0 28 yX0_valveIs, Cond.static yX0_valveIs, Cond.code yX0_valveIs cX0_valveIs 2 (some .int), Cond.methodLink RX2 112 yX2_changeMode, Cond.instanceMethod yX2_changeMode, Cond.selects RX2 yX2_changeMode yX2_changeMode, Cond.code yX2_changeMode cX2_changeMode 7 none, Cond.fieldLink RX2 149 "PressGuard$Settings" "bottom" "I", Cond.methodLink RX2 145 yX2_leastCause, Cond.instanceMethod yX2_leastCause, Cond.selects RX2 yX2_leastCause yX2_leastCause, Cond.code yX2_leastCause cX2_leastCause 1 (some .int), Cond.fieldLink RX2 142 "PressGuard$Settings" "patience" "I", Cond.methodLink RX2 116 yX2_moveSlide, Cond.instanceMethod yX2_moveSlide, Cond.selects RX2 yX2_moveSlide yX2_moveSlide, Cond.code yX2_moveSlide cX2_moveSlide 2 none, Cond.fieldLink RX2 155 "PressGuard$Settings" "overrun" "I", Cond.methodLink RX2 152 yX0_bothOpen]
def wsX6_run_r6 : List Cond := [Cond.instanceMethod yX0_bothOpen, Cond.selects RX0 yX0_bothOpen yX0_bothOpen, Cond.code yX0_bothOpen cX0_bothOpen 2 (some .boolean), Cond.methodLink RX2 158 yX2_arriveAtTop, Cond.instanceMethod yX2_arriveAtTop, Cond.selects RX2 yX2_arriveAtTop yX2_arriveAtTop, Cond.code yX2_arriveAtTop cX2_arriveAtTop 1 none]
def wsX6_run : List Cond := .code yX6_run cX6_run 6 none :: ((wsX6_run_r1 ++ (wsX6_run_r2 ++ (wsX6_run_r3 ++ (wsX6_run_r4 ++ (wsX6_run_r5 ++ wsX6_run_r6))))) ++ wsX60 ++ wsX30 ++ wsX20 ++ wsX00 ++ wsX50)
def wsX6_part : List Cond := .code yX6_part cX6_part 2 (some .int) :: ([.fieldLink RX6 30 "PressGuard$Trial" "press" "LPressGuard$Press;", .fieldLink RX6 63 "PressGuard$Press" "dangers" "I", .fieldLink RX6 18 "PressGuard$Trial" "firstLock" "I", .fieldLink RX6 22 "PressGuard$Trial" "firstCause" "I", .fieldLink RX6 57 "PressGuard$Press" "mode" "I", .fieldLink RX6 66 "PressGuard$Press" "rounds" "I"] ++ wsX60 ++ wsX20)
def wsX7_init : List Cond := .code yX7_init cX7_init 1 none :: ([.methodLink RX7 3 objectInit, .instanceMethod objectInit, .code objectInit ⟨#[0xb1]⟩ 1 none, .fieldLink RX7 9 "PressGuard$TrialSums" "soundRounds" "I", .fieldLink RX7 15 "PressGuard$TrialSums" "count" "I", .fieldLink RX7 18 "PressGuard$TrialSums" "dangerous" "I", .fieldLink RX7 21 "PressGuard$TrialSums" "everLocked" "I", .fieldLink RX7 24 "PressGuard$TrialSums" "longestToLock" "I", .fieldLink RX7 27 "PressGuard$TrialSums" "mostDangers" "I", .fieldLink RX7 30 "PressGuard$TrialSums" "fewerRounds" "I"] ++ wsX70)
def wsX7_begin : List Cond := .code yX7_begin cX7_begin 2 none :: ([.fieldLink RX7 9 "PressGuard$TrialSums" "soundRounds" "I", .fieldLink RX7 15 "PressGuard$TrialSums" "count" "I", .fieldLink RX7 18 "PressGuard$TrialSums" "dangerous" "I", .fieldLink RX7 21 "PressGuard$TrialSums" "everLocked" "I", .fieldLink RX7 24 "PressGuard$TrialSums" "longestToLock" "I", .fieldLink RX7 27 "PressGuard$TrialSums" "mostDangers" "I", .fieldLink RX7 30 "PressGuard$TrialSums" "fewerRounds" "I"] ++ wsX70)
def wsX7_add : List Cond := .code yX7_add cX7_add 3 none :: ([.fieldLink RX7 15 "PressGuard$TrialSums" "count" "I", .fieldLink RX7 33 "PressGuard$Trial" "press" "LPressGuard$Press;", .fieldLink RX7 39 "PressGuard$Press" "dangers" "I", .fieldLink RX7 18 "PressGuard$TrialSums" "dangerous" "I", .fieldLink RX7 44 "PressGuard$Trial" "firstLock" "I", .fieldLink RX7 21 "PressGuard$TrialSums" "everLocked" "I", .fieldLink RX7 24 "PressGuard$TrialSums" "longestToLock" "I", .methodLink RX7 47 Lib.Math.max.name, .static Lib.Math.max.name, .initialized "java/lang/Math", .code Lib.Math.max.name Lib.Math.max.code 2 (some .int), .fieldLink RX7 27 "PressGuard$TrialSums" "mostDangers" "I", .fieldLink RX7 53 "PressGuard$Press" "rounds" "I", .fieldLink RX7 9 "PressGuard$TrialSums" "soundRounds" "I", .fieldLink RX7 30 "PressGuard$TrialSums" "fewerRounds" "I"] ++ wsX70 ++ wsX60 ++ wsX20)
def wsX7_part : List Cond := .code yX7_part cX7_part 2 (some .int) :: ([.fieldLink RX7 15 "PressGuard$TrialSums" "count" "I", .fieldLink RX7 18 "PressGuard$TrialSums" "dangerous" "I", .fieldLink RX7 21 "PressGuard$TrialSums" "everLocked" "I", .fieldLink RX7 24 "PressGuard$TrialSums" "longestToLock" "I", .fieldLink RX7 27 "PressGuard$TrialSums" "mostDangers" "I", .fieldLink RX7 30 "PressGuard$TrialSums" "fewerRounds" "I"] ++ wsX70)
def wsX8_init_r1 : List Cond := [Cond.methodLink RX8 1 objectInit, Cond.instanceMethod objectInit, Cond.code objectInit ⟨#[0xb1]⟩ 1 none, Cond.classLink RX8 7 RX5, Cond.instantiable RX5 5, Cond.initialized RX5, Cond.fieldLink RX8 10 "PressGuard" "settings" "LPressGuard$Settings;", Cond.classLink RX8 16 RX0, Cond.instantiable RX0 4, Cond.initialized RX0, Cond.fieldLink RX8 19 "PressGuard" "faults" "LPressGuard$Faults;", Cond.classLink RX8 23 RX2, Cond.instantiable RX2 18, Cond.initialized RX2, Cond.fieldLink RX8 28 "PressGuard" "press" "LPressGuard$Press;", Cond.fieldLink RX8 32 "PressGuard" "attempt" "LPressGuard$Press;", Cond.classLink RX8 35 RX1, Cond.instantiable RX1 7, Cond.initialized RX1, Cond.fieldLink RX8 38 "PressGuard" "notes" "LPressGuard$Notes;", Cond.classLink RX8 42 RX3, Cond.instantiable RX3 2, Cond.initialized RX3, Cond.fieldLink RX8 45 "PressGuard" "script" "LPressGuard$Script;"]
def wsX8_init_r2 : List Cond := [Cond.classLink RX8 49 RX6, Cond.instantiable RX6 4, Cond.initialized RX6, Cond.fieldLink RX8 54 "PressGuard" "stuckTrial" "LPressGuard$Trial;", Cond.classLink RX8 58 RX7, Cond.instantiable RX7 7, Cond.initialized RX7, Cond.fieldLink RX8 61 "PressGuard" "sums" "LPressGuard$TrialSums;", Cond.classLink RX8 65 RX4, Cond.instantiable RX4 7, Cond.initialized RX4, Cond.fieldLink RX8 68 "PressGuard" "search" "LPressGuard$Search;", Cond.fieldLink RX8 72 "PressGuard" "sumsHold" "Z", Cond.instanceMethod yX5_init, Cond.code yX5_init cX5_init 1 none, Cond.methodLink RX5 3 objectInit, Cond.fieldLink RX5 9 "PressGuard$Settings" "patience" "I", Cond.fieldLink RX5 15 "PressGuard$Settings" "span" "I", Cond.fieldLink RX5 18 "PressGuard$Settings" "limit" "I", Cond.fieldLink RX5 21 "PressGuard$Settings" "overrun" "I", Cond.fieldLink RX5 24 "PressGuard$Settings" "bottom" "I", Cond.instanceMethod yX0_init, Cond.code yX0_init cX0_init 1 none, Cond.methodLink RX0 3 objectInit]
def wsX8_init_r3 : List Cond := [Cond.fieldLink RX0 9 "PressGuard$Faults" "stuckOff" "I", Cond.fieldLink RX0 15 "PressGuard$Faults" "stuckOn" "I", Cond.fieldLink RX0 18 "PressGuard$Faults" "firstValve" "I", Cond.fieldLink RX0 21 "PressGuard$Faults" "secondValve" "I", Cond.methodLink RX8 25 yX2_init, Cond.instanceMethod yX2_init, Cond.code yX2_init cX2_init 3 none, Cond.methodLink RX2 3 objectInit, Cond.fieldLink RX2 9 "PressGuard$Press" "mode" "I", Cond.fieldLink RX2 15 "PressGuard$Press" "hands" "I", Cond.fieldLink RX2 18 "PressGuard$Press" "since" "I", Cond.fieldLink RX2 21 "PressGuard$Press" "muting" "I", Cond.fieldLink RX2 24 "PressGuard$Press" "mutedFor" "I", Cond.fieldLink RX2 27 "PressGuard$Press" "leftApart" "I", Cond.fieldLink RX2 30 "PressGuard$Press" "rightApart" "I", Cond.fieldLink RX2 33 "PressGuard$Press" "curtainApart" "I", Cond.fieldLink RX2 36 "PressGuard$Press" "unlike" "I", Cond.fieldLink RX2 39 "PressGuard$Press" "command" "I", Cond.fieldLink RX2 42 "PressGuard$Press" "position" "I", Cond.fieldLink RX2 45 "PressGuard$Press" "brake" "I", Cond.fieldLink RX2 48 "PressGuard$Press" "resetSeen" "I", Cond.fieldLink RX2 51 "PressGuard$Press" "lockedBy" "I", Cond.fieldLink RX2 54 "PressGuard$Press" "dangers" "I", Cond.fieldLink RX2 57 "PressGuard$Press" "rounds" "I"]
def wsX8_init_r4 : List Cond := [Cond.fieldLink RX2 60 "PressGuard$Press" "settings" "LPressGuard$Settings;", Cond.fieldLink RX2 64 "PressGuard$Press" "faults" "LPressGuard$Faults;", Cond.instanceMethod yX1_init, Cond.code yX1_init cX1_init 1 none, Cond.methodLink RX1 3 objectInit, Cond.arrayClass .int, Cond.fieldLink RX1 9 "PressGuard$Notes" "lockTable" "[I", Cond.fieldLink RX1 15 "PressGuard$Notes" "causeOrder" "[I", Cond.fieldLink RX1 18 "PressGuard$Notes" "behind" "[I", Cond.fieldLink RX1 21 "PressGuard$Notes" "causesKnown" "I", Cond.fieldLink RX1 25 "PressGuard$Notes" "lockPlaces" "I", Cond.fieldLink RX1 28 "PressGuard$Notes" "lockCount" "I", Cond.fieldLink RX1 31 "PressGuard$Notes" "tickCount" "I", Cond.instanceMethod yX3_init, Cond.code yX3_init cX3_init 1 none, Cond.methodLink RX3 3 objectInit, Cond.fieldLink RX3 9 "PressGuard$Script" "sets" "[I", Cond.fieldLink RX3 15 "PressGuard$Script" "count" "I", Cond.methodLink RX8 51 yX6_init, Cond.instanceMethod yX6_init, Cond.code yX6_init cX6_init 2 none, Cond.methodLink RX6 3 objectInit, Cond.classLink RX6 9 RX0, Cond.fieldLink RX6 12 "PressGuard$Trial" "faults" "LPressGuard$Faults;"]
def wsX8_init_r5 : List Cond := [Cond.fieldLink RX6 18 "PressGuard$Trial" "firstLock" "I", Cond.fieldLink RX6 22 "PressGuard$Trial" "firstCause" "I", Cond.classLink RX6 25 RX2, Cond.fieldLink RX6 30 "PressGuard$Trial" "press" "LPressGuard$Press;", Cond.methodLink RX6 27 yX2_init, Cond.instanceMethod yX7_init, Cond.code yX7_init cX7_init 1 none, Cond.methodLink RX7 3 objectInit, Cond.fieldLink RX7 9 "PressGuard$TrialSums" "soundRounds" "I", Cond.fieldLink RX7 15 "PressGuard$TrialSums" "count" "I", Cond.fieldLink RX7 18 "PressGuard$TrialSums" "dangerous" "I", Cond.fieldLink RX7 21 "PressGuard$TrialSums" "everLocked" "I", Cond.fieldLink RX7 24 "PressGuard$TrialSums" "longestToLock" "I", Cond.fieldLink RX7 27 "PressGuard$TrialSums" "mostDangers" "I", Cond.fieldLink RX7 30 "PressGuard$TrialSums" "fewerRounds" "I", Cond.methodLink RX8 67 yX4_init, Cond.instanceMethod yX4_init, Cond.code yX4_init cX4_init 4 none, Cond.methodLink RX4 3 objectInit, Cond.classLink RX4 9 RX2, Cond.fieldLink RX4 11 "PressGuard$Search" "path" "[LPressGuard$Press;", Cond.arrayClass .long, Cond.fieldLink RX4 17 "PressGuard$Search" "table" "[J", Cond.fieldLink RX4 21 "PressGuard$Search" "fewest" "[I"]
def wsX8_init_r6 : List Cond := [Cond.fieldLink RX4 25 "PressGuard$Search" "choices" "[I", Cond.fieldLink RX4 28 "PressGuard$Search" "choiceCount" "I", Cond.fieldLink RX4 32 "PressGuard$Search" "states" "I", Cond.fieldLink RX4 35 "PressGuard$Search" "mostDangers" "I", Cond.methodLink RX4 38 yX2_init]
def wsX8_init : List Cond := .code yX8_init cX8_init 1 none :: ((wsX8_init_r1 ++ (wsX8_init_r2 ++ (wsX8_init_r3 ++ (wsX8_init_r4 ++ (wsX8_init_r5 ++ wsX8_init_r6))))) ++ wsX50 ++ wsX80 ++ wsX00 ++ wsX20 ++ wsX10 ++ wsX30 ++ wsX60 ++ wsX70 ++ wsX40)
def wsX8_anew_r1 : List Cond := [Cond.fieldLink RX8 10 "PressGuard" "settings" "LPressGuard$Settings;", Cond.fieldLink RX8 19 "PressGuard" "faults" "LPressGuard$Faults;", Cond.fieldLink RX8 28 "PressGuard" "press" "LPressGuard$Press;", Cond.fieldLink RX8 38 "PressGuard" "notes" "LPressGuard$Notes;", Cond.fieldLink RX8 72 "PressGuard" "sumsHold" "Z", Cond.methodLink RX8 76 yX8_within, Cond.static yX8_within, Cond.initialized RX8, Cond.code yX8_within cX8_within 3 (some .boolean), Cond.methodLink RX8 80 yX5_become, Cond.instanceMethod yX5_become, Cond.selects RX5 yX5_become yX5_become, Cond.initialized RX5, Cond.code yX5_become cX5_become 6 none, Cond.fieldLink RX5 9 "PressGuard$Settings" "patience" "I", Cond.fieldLink RX5 15 "PressGuard$Settings" "span" "I", Cond.fieldLink RX5 18 "PressGuard$Settings" "limit" "I", Cond.fieldLink RX5 21 "PressGuard$Settings" "overrun" "I", Cond.fieldLink RX5 24 "PressGuard$Settings" "bottom" "I", Cond.methodLink RX8 84 yX0_clear, Cond.instanceMethod yX0_clear, Cond.selects RX0 yX0_clear yX0_clear, Cond.initialized RX0, Cond.code yX0_clear cX0_clear 1 none]
def wsX8_anew_r2 : List Cond := [Cond.fieldLink RX0 9 "PressGuard$Faults" "stuckOff" "I", Cond.fieldLink RX0 15 "PressGuard$Faults" "stuckOn" "I", Cond.fieldLink RX0 18 "PressGuard$Faults" "firstValve" "I", Cond.fieldLink RX0 21 "PressGuard$Faults" "secondValve" "I", Cond.methodLink RX8 87 yX2_begin, Cond.instanceMethod yX2_begin, Cond.selects RX2 yX2_begin yX2_begin, Cond.initialized RX2, Cond.code yX2_begin cX2_begin 1 none, Cond.fieldLink RX2 9 "PressGuard$Press" "mode" "I", Cond.fieldLink RX2 15 "PressGuard$Press" "hands" "I", Cond.fieldLink RX2 18 "PressGuard$Press" "since" "I", Cond.fieldLink RX2 21 "PressGuard$Press" "muting" "I", Cond.fieldLink RX2 24 "PressGuard$Press" "mutedFor" "I", Cond.fieldLink RX2 27 "PressGuard$Press" "leftApart" "I", Cond.fieldLink RX2 30 "PressGuard$Press" "rightApart" "I", Cond.fieldLink RX2 33 "PressGuard$Press" "curtainApart" "I", Cond.fieldLink RX2 36 "PressGuard$Press" "unlike" "I", Cond.fieldLink RX2 39 "PressGuard$Press" "command" "I", Cond.fieldLink RX2 42 "PressGuard$Press" "position" "I", Cond.fieldLink RX2 45 "PressGuard$Press" "brake" "I", Cond.fieldLink RX2 48 "PressGuard$Press" "resetSeen" "I", Cond.fieldLink RX2 51 "PressGuard$Press" "lockedBy" "I", Cond.fieldLink RX2 54 "PressGuard$Press" "dangers" "I"]
def wsX8_anew_r3 : List Cond := [Cond.fieldLink RX2 57 "PressGuard$Press" "rounds" "I", Cond.methodLink RX8 90 yX1_clear, Cond.instanceMethod yX1_clear, Cond.selects RX1 yX1_clear yX1_clear, Cond.initialized RX1, Cond.code yX1_clear cX1_clear 1 none, Cond.fieldLink RX1 9 "PressGuard$Notes" "lockTable" "[I", Cond.fieldLink RX1 15 "PressGuard$Notes" "causeOrder" "[I", Cond.fieldLink RX1 18 "PressGuard$Notes" "behind" "[I", Cond.fieldLink RX1 21 "PressGuard$Notes" "causesKnown" "I", Cond.fieldLink RX1 25 "PressGuard$Notes" "lockPlaces" "I", Cond.fieldLink RX1 28 "PressGuard$Notes" "lockCount" "I", Cond.fieldLink RX1 31 "PressGuard$Notes" "tickCount" "I", Cond.methodLink RX1 34 yJ7_fill_53178, Cond.static yJ7_fill_53178, Cond.initialized RJ7, Cond.code yJ7_fill_53178 cJ7_fill_53178 4 none]
def wsX8_anew : List Cond := .code yX8_anew cX8_anew 7 (some .int) :: ((wsX8_anew_r1 ++ (wsX8_anew_r2 ++ wsX8_anew_r3)) ++ wsX80 ++ wsX50 ++ wsX00 ++ wsX20 ++ wsX10)
def wsX8_stick : List Cond := .code yX8_stick cX8_stick 4 (some .int) :: ([.fieldLink RX8 19 "PressGuard" "faults" "LPressGuard$Faults;", .methodLink RX8 76 yX8_within, .static yX8_within, .initialized RX8, .code yX8_within cX8_within 3 (some .boolean), .methodLink RX8 91 yX0_inputStuckAt, .instanceMethod yX0_inputStuckAt, .selects RX0 yX0_inputStuckAt yX0_inputStuckAt, .initialized RX0, .code yX0_inputStuckAt cX0_inputStuckAt 2 (some .int), .fieldLink RX0 15 "PressGuard$Faults" "stuckOn" "I", .fieldLink RX0 9 "PressGuard$Faults" "stuckOff" "I", .static yX8_bit, .code yX8_bit cX8_bit 2 (some .int), .methodLink RX8 95 yX0_setInput, .instanceMethod yX0_setInput, .selects RX0 yX0_setInput yX0_setInput, .code yX0_setInput cX0_setInput 4 none] ++ wsX80 ++ wsX00)
def wsX8_valve : List Cond := .code yX8_valve cX8_valve 4 (some .int) :: ([.fieldLink RX8 19 "PressGuard" "faults" "LPressGuard$Faults;", .methodLink RX8 76 yX8_within, .static yX8_within, .initialized RX8, .code yX8_within cX8_within 3 (some .boolean), .methodLink RX8 99 yX0_valveStuckAt, .instanceMethod yX0_valveStuckAt, .selects RX0 yX0_valveStuckAt yX0_valveStuckAt, .initialized RX0, .code yX0_valveStuckAt cX0_valveStuckAt 2 (some .int), .fieldLink RX0 18 "PressGuard$Faults" "firstValve" "I", .fieldLink RX0 21 "PressGuard$Faults" "secondValve" "I", .methodLink RX8 102 yX0_setValve, .instanceMethod yX0_setValve, .selects RX0 yX0_setValve yX0_setValve, .code yX0_setValve cX0_setValve 3 none] ++ wsX80 ++ wsX00)
def wsX8_isSet : List Cond := .code yX8_isSet cX8_isSet 1 (some .boolean) :: ([.methodLink RX8 76 yX8_within, .static yX8_within, .initialized RX8, .code yX8_within cX8_within 3 (some .boolean)])
def wsX8_advanceNoted_r1 : List Cond := [Cond.fieldLink RX8 28 "PressGuard" "press" "LPressGuard$Press;", Cond.fieldLink RX8 113 "PressGuard$Press" "mode" "I", Cond.fieldLink RX8 193 "PressGuard$Press" "position" "I", Cond.fieldLink RX8 38 "PressGuard" "notes" "LPressGuard$Notes;", Cond.fieldLink RX8 199 "PressGuard$Press" "lockedBy" "I", Cond.methodLink RX8 125 yX2_advance, Cond.instanceMethod yX2_advance, Cond.selects RX2 yX2_advance yX2_advance, Cond.initialized RX2, Cond.code yX2_advance cX2_advance 6 none, Cond.fieldLink RX2 64 "PressGuard$Press" "faults" "LPressGuard$Faults;", Cond.fieldLink RX2 27 "PressGuard$Press" "leftApart" "I", Cond.fieldLink RX2 30 "PressGuard$Press" "rightApart" "I", Cond.fieldLink RX2 33 "PressGuard$Press" "curtainApart" "I", Cond.fieldLink RX2 15 "PressGuard$Press" "hands" "I", Cond.fieldLink RX2 39 "PressGuard$Press" "command" "I", Cond.fieldLink RX2 36 "PressGuard$Press" "unlike" "I", Cond.fieldLink RX2 9 "PressGuard$Press" "mode" "I", Cond.fieldLink RX2 48 "PressGuard$Press" "resetSeen" "I", Cond.methodLink RX2 80 yX0_seenOf, Cond.instanceMethod yX0_seenOf, Cond.selects RX0 yX0_seenOf yX0_seenOf, Cond.initialized RX0, Cond.code yX0_seenOf cX0_seenOf 2 (some .int)]
def wsX8_advanceNoted_r2 : List Cond := [Cond.fieldLink RX0 15 "PressGuard$Faults" "stuckOn" "I", Cond.fieldLink RX0 9 "PressGuard$Faults" "stuckOff" "I", Cond.methodLink RX2 86 yX2_apartThen, Cond.static yX2_apartThen, Cond.code yX2_apartThen cX2_apartThen 3 (some .int), Cond.static yX8_pairCount, Cond.initialized RX8, Cond.code yX8_pairCount cX8_pairCount 2 (some .int), Cond.methodLink RX8 211 yX8_bit, Cond.static yX8_bit, Cond.code yX8_bit cX8_bit 2 (some .int), Cond.methodLink RX2 101 yX2_oneMore, Cond.static yX2_oneMore, Cond.code yX2_oneMore cX2_oneMore 1 (some .int), Cond.methodLink RX2 122 Lib.Math.min.name, Cond.static Lib.Math.min.name, Cond.initialized "java/lang/Math", Cond.code Lib.Math.min.name Lib.Math.min.code 2 (some .int), Cond.methodLink RX2 90 yX2_moveMuting, Cond.instanceMethod yX2_moveMuting, Cond.selects RX2 yX2_moveMuting yX2_moveMuting, Cond.code yX2_moveMuting cX2_moveMuting 2 none, Cond.fieldLink RX2 21 "PressGuard$Press" "muting" "I", Cond.fieldLink RX2 24 "PressGuard$Press" "mutedFor" "I"]
def wsX8_advanceNoted_r3 : List Cond := [Cond.fieldLink RX2 60 "PressGuard$Press" "settings" "LPressGuard$Settings;", Cond.fieldLink RX2 131 "PressGuard$Settings" "limit" "I", Cond.methodLink RX2 127 yX2_mutingThen, Cond.instanceMethod yX2_mutingThen, Cond.selects RX2 yX2_mutingThen yX2_mutingThen, Cond.code yX2_mutingThen cX2_mutingThen 3 (some .int), Cond.methodLink RX2 108 yX2_isMuted, Cond.instanceMethod yX2_isMuted, Cond.selects RX2 yX2_isMuted yX2_isMuted, Cond.code yX2_isMuted cX2_isMuted 1 (some .boolean), Cond.methodLink RX2 94 yX2_moveHands, Cond.instanceMethod yX2_moveHands, Cond.selects RX2 yX2_moveHands yX2_moveHands, Cond.code yX2_moveHands cX2_moveHands 4 none, Cond.fieldLink RX2 18 "PressGuard$Press" "since" "I", Cond.methodLink RX2 136 yX2_handsThen, Cond.instanceMethod yX2_handsThen, Cond.selects RX2 yX2_handsThen yX2_handsThen, Cond.code yX2_handsThen cX2_handsThen 3 (some .int), Cond.fieldLink RX2 139 "PressGuard$Settings" "span" "I", Cond.methodLink RX2 97 yX0_valvesObey, Cond.instanceMethod yX0_valvesObey, Cond.selects RX0 yX0_valvesObey yX0_valvesObey, Cond.code yX0_valvesObey cX0_valvesObey 2 (some .boolean)]
def wsX8_advanceNoted_r4 : List Cond := [Cond.fieldLink RX0 18 "PressGuard$Faults" "firstValve" "I", Cond.fieldLink RX0 21 "PressGuard$Faults" "secondValve" "I", Cond.methodLink RX0 28 yX0_valveIs, Cond.static yX0_valveIs, Cond.code yX0_valveIs cX0_valveIs 2 (some .int), Cond.methodLink RX2 112 yX2_changeMode, Cond.instanceMethod yX2_changeMode, Cond.selects RX2 yX2_changeMode yX2_changeMode, Cond.code yX2_changeMode cX2_changeMode 7 none, Cond.fieldLink RX2 42 "PressGuard$Press" "position" "I", Cond.fieldLink RX2 51 "PressGuard$Press" "lockedBy" "I", Cond.fieldLink RX2 149 "PressGuard$Settings" "bottom" "I", Cond.methodLink RX2 145 yX2_leastCause, Cond.instanceMethod yX2_leastCause, Cond.selects RX2 yX2_leastCause yX2_leastCause, Cond.code yX2_leastCause cX2_leastCause 1 (some .int), Cond.fieldLink RX2 142 "PressGuard$Settings" "patience" "I", Cond.methodLink RX2 116 yX2_moveSlide, Cond.instanceMethod yX2_moveSlide, Cond.selects RX2 yX2_moveSlide yX2_moveSlide, Cond.code yX2_moveSlide cX2_moveSlide 2 none, Cond.fieldLink RX2 155 "PressGuard$Settings" "overrun" "I", Cond.fieldLink RX2 45 "PressGuard$Press" "brake" "I", Cond.fieldLink RX2 54 "PressGuard$Press" "dangers" "I"]
def wsX8_advanceNoted_r5 : List Cond := [Cond.methodLink RX2 152 yX0_bothOpen, Cond.instanceMethod yX0_bothOpen, Cond.selects RX0 yX0_bothOpen yX0_bothOpen, Cond.code yX0_bothOpen cX0_bothOpen 2 (some .boolean), Cond.methodLink RX2 158 yX2_arriveAtTop, Cond.instanceMethod yX2_arriveAtTop, Cond.selects RX2 yX2_arriveAtTop yX2_arriveAtTop, Cond.code yX2_arriveAtTop cX2_arriveAtTop 1 none, Cond.fieldLink RX2 57 "PressGuard$Press" "rounds" "I", Cond.methodLink RX8 196 yX1_addTick, Cond.instanceMethod yX1_addTick, Cond.selects RX1 yX1_addTick yX1_addTick, Cond.initialized RX1, Cond.code yX1_addTick cX1_addTick 3 none, Cond.fieldLink RX1 31 "PressGuard$Notes" "tickCount" "I", Cond.fieldLink RX1 18 "PressGuard$Notes" "behind" "[I", Cond.static yX8_within, Cond.code yX8_within cX8_within 3 (some .boolean), Cond.methodLink RX8 202 yX1_addLock, Cond.instanceMethod yX1_addLock, Cond.selects RX1 yX1_addLock yX1_addLock, Cond.code yX1_addLock cX1_addLock 3 none, Cond.fieldLink RX1 21 "PressGuard$Notes" "causesKnown" "I", Cond.fieldLink RX1 15 "PressGuard$Notes" "causeOrder" "[I"]
def wsX8_advanceNoted_r6 : List Cond := [Cond.fieldLink RX1 9 "PressGuard$Notes" "lockTable" "[I", Cond.fieldLink RX1 25 "PressGuard$Notes" "lockPlaces" "I", Cond.fieldLink RX1 28 "PressGuard$Notes" "lockCount" "I", Cond.methodLink RX1 44 yX1_locksBy, Cond.instanceMethod yX1_locksBy, Cond.selects RX1 yX1_locksBy yX1_locksBy, Cond.code yX1_locksBy cX1_locksBy 4 (some .int), Cond.methodLink RX1 48 yX1_locksAt, Cond.instanceMethod yX1_locksAt, Cond.selects RX1 yX1_locksAt yX1_locksAt, Cond.code yX1_locksAt cX1_locksAt 3 (some .int)]
def wsX8_advanceNoted : List Cond := .code yX8_advanceNoted cX8_advanceNoted 4 none :: ((wsX8_advanceNoted_r1 ++ (wsX8_advanceNoted_r2 ++ (wsX8_advanceNoted_r3 ++ (wsX8_advanceNoted_r4 ++ (wsX8_advanceNoted_r5 ++ wsX8_advanceNoted_r6))))) ++ wsX80 ++ wsX20 ++ wsX00 ++ wsX50 ++ wsX10)
def wsX8_tick_r1 : List Cond := [Cond.fieldLink RX8 28 "PressGuard" "press" "LPressGuard$Press;", Cond.fieldLink RX8 113 "PressGuard$Press" "mode" "I", Cond.methodLink RX8 105 yX8_isSet, Cond.static yX8_isSet, Cond.initialized RX8, Cond.code yX8_isSet cX8_isSet 1 (some .boolean), Cond.methodLink RX8 76 yX8_within, Cond.static yX8_within, Cond.code yX8_within cX8_within 3 (some .boolean), Cond.methodLink RX8 109 yX8_advanceNoted, Cond.instanceMethod yX8_advanceNoted, Cond.selects RX8 yX8_advanceNoted yX8_advanceNoted, Cond.code yX8_advanceNoted cX8_advanceNoted 4 none, Cond.fieldLink RX8 193 "PressGuard$Press" "position" "I", Cond.fieldLink RX8 38 "PressGuard" "notes" "LPressGuard$Notes;", Cond.fieldLink RX8 199 "PressGuard$Press" "lockedBy" "I", Cond.methodLink RX8 125 yX2_advance, Cond.instanceMethod yX2_advance, Cond.selects RX2 yX2_advance yX2_advance, Cond.initialized RX2, Cond.code yX2_advance cX2_advance 6 none, Cond.fieldLink RX2 64 "PressGuard$Press" "faults" "LPressGuard$Faults;", Cond.fieldLink RX2 27 "PressGuard$Press" "leftApart" "I", Cond.fieldLink RX2 30 "PressGuard$Press" "rightApart" "I"]
def wsX8_tick_r2 : List Cond := [Cond.fieldLink RX2 33 "PressGuard$Press" "curtainApart" "I", Cond.fieldLink RX2 15 "PressGuard$Press" "hands" "I", Cond.fieldLink RX2 39 "PressGuard$Press" "command" "I", Cond.fieldLink RX2 36 "PressGuard$Press" "unlike" "I", Cond.fieldLink RX2 9 "PressGuard$Press" "mode" "I", Cond.fieldLink RX2 48 "PressGuard$Press" "resetSeen" "I", Cond.methodLink RX2 80 yX0_seenOf, Cond.instanceMethod yX0_seenOf, Cond.selects RX0 yX0_seenOf yX0_seenOf, Cond.initialized RX0, Cond.code yX0_seenOf cX0_seenOf 2 (some .int), Cond.fieldLink RX0 15 "PressGuard$Faults" "stuckOn" "I", Cond.fieldLink RX0 9 "PressGuard$Faults" "stuckOff" "I", Cond.methodLink RX2 86 yX2_apartThen, Cond.static yX2_apartThen, Cond.code yX2_apartThen cX2_apartThen 3 (some .int), Cond.static yX8_pairCount, Cond.code yX8_pairCount cX8_pairCount 2 (some .int), Cond.methodLink RX8 211 yX8_bit, Cond.static yX8_bit, Cond.code yX8_bit cX8_bit 2 (some .int), Cond.methodLink RX2 101 yX2_oneMore, Cond.static yX2_oneMore, Cond.code yX2_oneMore cX2_oneMore 1 (some .int)]
def wsX8_tick_r3 : List Cond := [Cond.methodLink RX2 122 Lib.Math.min.name, Cond.static Lib.Math.min.name, Cond.initialized "java/lang/Math", Cond.code Lib.Math.min.name Lib.Math.min.code 2 (some .int), Cond.methodLink RX2 90 yX2_moveMuting, Cond.instanceMethod yX2_moveMuting, Cond.selects RX2 yX2_moveMuting yX2_moveMuting, Cond.code yX2_moveMuting cX2_moveMuting 2 none, Cond.fieldLink RX2 21 "PressGuard$Press" "muting" "I", Cond.fieldLink RX2 24 "PressGuard$Press" "mutedFor" "I", Cond.fieldLink RX2 60 "PressGuard$Press" "settings" "LPressGuard$Settings;", Cond.fieldLink RX2 131 "PressGuard$Settings" "limit" "I", Cond.methodLink RX2 127 yX2_mutingThen, Cond.instanceMethod yX2_mutingThen, Cond.selects RX2 yX2_mutingThen yX2_mutingThen, Cond.code yX2_mutingThen cX2_mutingThen 3 (some .int), Cond.methodLink RX2 108 yX2_isMuted, Cond.instanceMethod yX2_isMuted, Cond.selects RX2 yX2_isMuted yX2_isMuted, Cond.code yX2_isMuted cX2_isMuted 1 (some .boolean), Cond.methodLink RX2 94 yX2_moveHands, Cond.instanceMethod yX2_moveHands, Cond.selects RX2 yX2_moveHands yX2_moveHands, Cond.code yX2_moveHands cX2_moveHands 4 none]
def wsX8_tick_r4 : List Cond := [Cond.fieldLink RX2 18 "PressGuard$Press" "since" "I", Cond.methodLink RX2 136 yX2_handsThen, Cond.instanceMethod yX2_handsThen, Cond.selects RX2 yX2_handsThen yX2_handsThen, Cond.code yX2_handsThen cX2_handsThen 3 (some .int), Cond.fieldLink RX2 139 "PressGuard$Settings" "span" "I", Cond.methodLink RX2 97 yX0_valvesObey, Cond.instanceMethod yX0_valvesObey, Cond.selects RX0 yX0_valvesObey yX0_valvesObey, Cond.code yX0_valvesObey cX0_valvesObey 2 (some .boolean), Cond.fieldLink RX0 18 "PressGuard$Faults" "firstValve" "I", Cond.fieldLink RX0 21 "PressGuard$Faults" "secondValve" "I", Cond.methodLink RX0 28 yX0_valveIs, Cond.static yX0_valveIs, Cond.code yX0_valveIs cX0_valveIs 2 (some .int), Cond.methodLink RX2 112 yX2_changeMode, Cond.instanceMethod yX2_changeMode, Cond.selects RX2 yX2_changeMode yX2_changeMode, Cond.code yX2_changeMode cX2_changeMode 7 none, Cond.fieldLink RX2 42 "PressGuard$Press" "position" "I", Cond.fieldLink RX2 51 "PressGuard$Press" "lockedBy" "I", Cond.fieldLink RX2 149 "PressGuard$Settings" "bottom" "I", Cond.methodLink RX2 145 yX2_leastCause, Cond.instanceMethod yX2_leastCause]
def wsX8_tick_r5 : List Cond := [Cond.selects RX2 yX2_leastCause yX2_leastCause, Cond.code yX2_leastCause cX2_leastCause 1 (some .int), Cond.fieldLink RX2 142 "PressGuard$Settings" "patience" "I", Cond.methodLink RX2 116 yX2_moveSlide, Cond.instanceMethod yX2_moveSlide, Cond.selects RX2 yX2_moveSlide yX2_moveSlide, Cond.code yX2_moveSlide cX2_moveSlide 2 none, Cond.fieldLink RX2 155 "PressGuard$Settings" "overrun" "I", Cond.fieldLink RX2 45 "PressGuard$Press" "brake" "I", Cond.fieldLink RX2 54 "PressGuard$Press" "dangers" "I", Cond.methodLink RX2 152 yX0_bothOpen, Cond.instanceMethod yX0_bothOpen, Cond.selects RX0 yX0_bothOpen yX0_bothOpen, Cond.code yX0_bothOpen cX0_bothOpen 2 (some .boolean), Cond.methodLink RX2 158 yX2_arriveAtTop, Cond.instanceMethod yX2_arriveAtTop, Cond.selects RX2 yX2_arriveAtTop yX2_arriveAtTop, Cond.code yX2_arriveAtTop cX2_arriveAtTop 1 none, Cond.fieldLink RX2 57 "PressGuard$Press" "rounds" "I", Cond.methodLink RX8 196 yX1_addTick, Cond.instanceMethod yX1_addTick, Cond.selects RX1 yX1_addTick yX1_addTick, Cond.initialized RX1, Cond.code yX1_addTick cX1_addTick 3 none]
def wsX8_tick_r6 : List Cond := [Cond.fieldLink RX1 31 "PressGuard$Notes" "tickCount" "I", Cond.fieldLink RX1 18 "PressGuard$Notes" "behind" "[I", Cond.methodLink RX8 202 yX1_addLock, Cond.instanceMethod yX1_addLock, Cond.selects RX1 yX1_addLock yX1_addLock, Cond.code yX1_addLock cX1_addLock 3 none, Cond.fieldLink RX1 21 "PressGuard$Notes" "causesKnown" "I", Cond.fieldLink RX1 15 "PressGuard$Notes" "causeOrder" "[I", Cond.fieldLink RX1 9 "PressGuard$Notes" "lockTable" "[I", Cond.fieldLink RX1 25 "PressGuard$Notes" "lockPlaces" "I", Cond.fieldLink RX1 28 "PressGuard$Notes" "lockCount" "I", Cond.methodLink RX1 44 yX1_locksBy, Cond.instanceMethod yX1_locksBy, Cond.selects RX1 yX1_locksBy yX1_locksBy, Cond.code yX1_locksBy cX1_locksBy 4 (some .int), Cond.methodLink RX1 48 yX1_locksAt, Cond.instanceMethod yX1_locksAt, Cond.selects RX1 yX1_locksAt yX1_locksAt, Cond.code yX1_locksAt cX1_locksAt 3 (some .int)]
def wsX8_tick : List Cond := .code yX8_tick cX8_tick 2 (some .int) :: ((wsX8_tick_r1 ++ (wsX8_tick_r2 ++ (wsX8_tick_r3 ++ (wsX8_tick_r4 ++ (wsX8_tick_r5 ++ wsX8_tick_r6))))) ++ wsX80 ++ wsX20 ++ wsX00 ++ wsX50 ++ wsX10)
def wsX8_ticks_r1 : List Cond := [Cond.fieldLink RX8 28 "PressGuard" "press" "LPressGuard$Press;", Cond.fieldLink RX8 113 "PressGuard$Press" "mode" "I", Cond.methodLink RX8 105 yX8_isSet, Cond.static yX8_isSet, Cond.initialized RX8, Cond.code yX8_isSet cX8_isSet 1 (some .boolean), Cond.methodLink RX8 76 yX8_within, Cond.static yX8_within, Cond.code yX8_within cX8_within 3 (some .boolean), Cond.methodLink RX8 109 yX8_advanceNoted, Cond.instanceMethod yX8_advanceNoted, Cond.selects RX8 yX8_advanceNoted yX8_advanceNoted, Cond.code yX8_advanceNoted cX8_advanceNoted 4 none, Cond.fieldLink RX8 193 "PressGuard$Press" "position" "I", Cond.fieldLink RX8 38 "PressGuard" "notes" "LPressGuard$Notes;", Cond.fieldLink RX8 199 "PressGuard$Press" "lockedBy" "I", Cond.methodLink RX8 125 yX2_advance, Cond.instanceMethod yX2_advance, Cond.selects RX2 yX2_advance yX2_advance, Cond.initialized RX2, Cond.code yX2_advance cX2_advance 6 none, Cond.fieldLink RX2 64 "PressGuard$Press" "faults" "LPressGuard$Faults;", Cond.fieldLink RX2 27 "PressGuard$Press" "leftApart" "I", Cond.fieldLink RX2 30 "PressGuard$Press" "rightApart" "I"]
def wsX8_ticks_r2 : List Cond := [Cond.fieldLink RX2 33 "PressGuard$Press" "curtainApart" "I", Cond.fieldLink RX2 15 "PressGuard$Press" "hands" "I", Cond.fieldLink RX2 39 "PressGuard$Press" "command" "I", Cond.fieldLink RX2 36 "PressGuard$Press" "unlike" "I", Cond.fieldLink RX2 9 "PressGuard$Press" "mode" "I", Cond.fieldLink RX2 48 "PressGuard$Press" "resetSeen" "I", Cond.methodLink RX2 80 yX0_seenOf, Cond.instanceMethod yX0_seenOf, Cond.selects RX0 yX0_seenOf yX0_seenOf, Cond.initialized RX0, Cond.code yX0_seenOf cX0_seenOf 2 (some .int), Cond.fieldLink RX0 15 "PressGuard$Faults" "stuckOn" "I", Cond.fieldLink RX0 9 "PressGuard$Faults" "stuckOff" "I", Cond.methodLink RX2 86 yX2_apartThen, Cond.static yX2_apartThen, Cond.code yX2_apartThen cX2_apartThen 3 (some .int), Cond.static yX8_pairCount, Cond.code yX8_pairCount cX8_pairCount 2 (some .int), Cond.methodLink RX8 211 yX8_bit, Cond.static yX8_bit, Cond.code yX8_bit cX8_bit 2 (some .int), Cond.methodLink RX2 101 yX2_oneMore, Cond.static yX2_oneMore, Cond.code yX2_oneMore cX2_oneMore 1 (some .int)]
def wsX8_ticks_r3 : List Cond := [Cond.methodLink RX2 122 Lib.Math.min.name, Cond.static Lib.Math.min.name, Cond.initialized "java/lang/Math", Cond.code Lib.Math.min.name Lib.Math.min.code 2 (some .int), Cond.methodLink RX2 90 yX2_moveMuting, Cond.instanceMethod yX2_moveMuting, Cond.selects RX2 yX2_moveMuting yX2_moveMuting, Cond.code yX2_moveMuting cX2_moveMuting 2 none, Cond.fieldLink RX2 21 "PressGuard$Press" "muting" "I", Cond.fieldLink RX2 24 "PressGuard$Press" "mutedFor" "I", Cond.fieldLink RX2 60 "PressGuard$Press" "settings" "LPressGuard$Settings;", Cond.fieldLink RX2 131 "PressGuard$Settings" "limit" "I", Cond.methodLink RX2 127 yX2_mutingThen, Cond.instanceMethod yX2_mutingThen, Cond.selects RX2 yX2_mutingThen yX2_mutingThen, Cond.code yX2_mutingThen cX2_mutingThen 3 (some .int), Cond.methodLink RX2 108 yX2_isMuted, Cond.instanceMethod yX2_isMuted, Cond.selects RX2 yX2_isMuted yX2_isMuted, Cond.code yX2_isMuted cX2_isMuted 1 (some .boolean), Cond.methodLink RX2 94 yX2_moveHands, Cond.instanceMethod yX2_moveHands, Cond.selects RX2 yX2_moveHands yX2_moveHands, Cond.code yX2_moveHands cX2_moveHands 4 none]
def wsX8_ticks_r4 : List Cond := [Cond.fieldLink RX2 18 "PressGuard$Press" "since" "I", Cond.methodLink RX2 136 yX2_handsThen, Cond.instanceMethod yX2_handsThen, Cond.selects RX2 yX2_handsThen yX2_handsThen, Cond.code yX2_handsThen cX2_handsThen 3 (some .int), Cond.fieldLink RX2 139 "PressGuard$Settings" "span" "I", Cond.methodLink RX2 97 yX0_valvesObey, Cond.instanceMethod yX0_valvesObey, Cond.selects RX0 yX0_valvesObey yX0_valvesObey, Cond.code yX0_valvesObey cX0_valvesObey 2 (some .boolean), Cond.fieldLink RX0 18 "PressGuard$Faults" "firstValve" "I", Cond.fieldLink RX0 21 "PressGuard$Faults" "secondValve" "I", Cond.methodLink RX0 28 yX0_valveIs, Cond.static yX0_valveIs, Cond.code yX0_valveIs cX0_valveIs 2 (some .int), Cond.methodLink RX2 112 yX2_changeMode, Cond.instanceMethod yX2_changeMode, Cond.selects RX2 yX2_changeMode yX2_changeMode, Cond.code yX2_changeMode cX2_changeMode 7 none, Cond.fieldLink RX2 42 "PressGuard$Press" "position" "I", Cond.fieldLink RX2 51 "PressGuard$Press" "lockedBy" "I", Cond.fieldLink RX2 149 "PressGuard$Settings" "bottom" "I", Cond.methodLink RX2 145 yX2_leastCause, Cond.instanceMethod yX2_leastCause]
def wsX8_ticks_r5 : List Cond := [Cond.selects RX2 yX2_leastCause yX2_leastCause, Cond.code yX2_leastCause cX2_leastCause 1 (some .int), Cond.fieldLink RX2 142 "PressGuard$Settings" "patience" "I", Cond.methodLink RX2 116 yX2_moveSlide, Cond.instanceMethod yX2_moveSlide, Cond.selects RX2 yX2_moveSlide yX2_moveSlide, Cond.code yX2_moveSlide cX2_moveSlide 2 none, Cond.fieldLink RX2 155 "PressGuard$Settings" "overrun" "I", Cond.fieldLink RX2 45 "PressGuard$Press" "brake" "I", Cond.fieldLink RX2 54 "PressGuard$Press" "dangers" "I", Cond.methodLink RX2 152 yX0_bothOpen, Cond.instanceMethod yX0_bothOpen, Cond.selects RX0 yX0_bothOpen yX0_bothOpen, Cond.code yX0_bothOpen cX0_bothOpen 2 (some .boolean), Cond.methodLink RX2 158 yX2_arriveAtTop, Cond.instanceMethod yX2_arriveAtTop, Cond.selects RX2 yX2_arriveAtTop yX2_arriveAtTop, Cond.code yX2_arriveAtTop cX2_arriveAtTop 1 none, Cond.fieldLink RX2 57 "PressGuard$Press" "rounds" "I", Cond.methodLink RX8 196 yX1_addTick, Cond.instanceMethod yX1_addTick, Cond.selects RX1 yX1_addTick yX1_addTick, Cond.initialized RX1, Cond.code yX1_addTick cX1_addTick 3 none]
def wsX8_ticks_r6 : List Cond := [Cond.fieldLink RX1 31 "PressGuard$Notes" "tickCount" "I", Cond.fieldLink RX1 18 "PressGuard$Notes" "behind" "[I", Cond.methodLink RX8 202 yX1_addLock, Cond.instanceMethod yX1_addLock, Cond.selects RX1 yX1_addLock yX1_addLock, Cond.code yX1_addLock cX1_addLock 3 none, Cond.fieldLink RX1 21 "PressGuard$Notes" "causesKnown" "I", Cond.fieldLink RX1 15 "PressGuard$Notes" "causeOrder" "[I", Cond.fieldLink RX1 9 "PressGuard$Notes" "lockTable" "[I", Cond.fieldLink RX1 25 "PressGuard$Notes" "lockPlaces" "I", Cond.fieldLink RX1 28 "PressGuard$Notes" "lockCount" "I", Cond.methodLink RX1 44 yX1_locksBy, Cond.instanceMethod yX1_locksBy, Cond.selects RX1 yX1_locksBy yX1_locksBy, Cond.code yX1_locksBy cX1_locksBy 4 (some .int), Cond.methodLink RX1 48 yX1_locksAt, Cond.instanceMethod yX1_locksAt, Cond.selects RX1 yX1_locksAt yX1_locksAt, Cond.code yX1_locksAt cX1_locksAt 3 (some .int)]
def wsX8_ticks : List Cond := .code yX8_ticks cX8_ticks 4 (some .int) :: ((wsX8_ticks_r1 ++ (wsX8_ticks_r2 ++ (wsX8_ticks_r3 ++ (wsX8_ticks_r4 ++ (wsX8_ticks_r5 ++ wsX8_ticks_r6))))) ++ wsX80 ++ wsX20 ++ wsX00 ++ wsX50 ++ wsX10)
def wsX8_now : List Cond := .code yX8_now cX8_now 2 (some .int) :: ([.fieldLink RX8 28 "PressGuard" "press" "LPressGuard$Press;", .methodLink RX8 117 yX2_part, .instanceMethod yX2_part, .selects RX2 yX2_part yX2_part, .initialized RX2, .code yX2_part cX2_part 2 (some .int), .fieldLink RX2 9 "PressGuard$Press" "mode" "I", .fieldLink RX2 15 "PressGuard$Press" "hands" "I", .fieldLink RX2 18 "PressGuard$Press" "since" "I", .fieldLink RX2 21 "PressGuard$Press" "muting" "I", .fieldLink RX2 24 "PressGuard$Press" "mutedFor" "I", .fieldLink RX2 27 "PressGuard$Press" "leftApart" "I", .fieldLink RX2 30 "PressGuard$Press" "rightApart" "I", .fieldLink RX2 33 "PressGuard$Press" "curtainApart" "I", .fieldLink RX2 36 "PressGuard$Press" "unlike" "I", .fieldLink RX2 39 "PressGuard$Press" "command" "I", .fieldLink RX2 42 "PressGuard$Press" "position" "I", .fieldLink RX2 45 "PressGuard$Press" "brake" "I", .fieldLink RX2 48 "PressGuard$Press" "resetSeen" "I", .fieldLink RX2 51 "PressGuard$Press" "lockedBy" "I"] ++ wsX80 ++ wsX20)
def wsX8_setting : List Cond := .code yX8_setting cX8_setting 2 (some .int) :: ([.fieldLink RX8 10 "PressGuard" "settings" "LPressGuard$Settings;", .methodLink RX8 120 yX5_part, .instanceMethod yX5_part, .selects RX5 yX5_part yX5_part, .initialized RX5, .code yX5_part cX5_part 2 (some .int), .fieldLink RX5 9 "PressGuard$Settings" "patience" "I", .fieldLink RX5 15 "PressGuard$Settings" "span" "I", .fieldLink RX5 18 "PressGuard$Settings" "limit" "I", .fieldLink RX5 21 "PressGuard$Settings" "overrun" "I", .fieldLink RX5 24 "PressGuard$Settings" "bottom" "I"] ++ wsX80 ++ wsX50)
def wsX8_leadsTo_r1 : List Cond := [Cond.fieldLink RX8 32 "PressGuard" "attempt" "LPressGuard$Press;", Cond.fieldLink RX8 28 "PressGuard" "press" "LPressGuard$Press;", Cond.fieldLink RX8 113 "PressGuard$Press" "mode" "I", Cond.methodLink RX8 76 yX8_within, Cond.static yX8_within, Cond.initialized RX8, Cond.code yX8_within cX8_within 3 (some .boolean), Cond.methodLink RX8 121 yX2_copyFrom, Cond.instanceMethod yX2_copyFrom, Cond.selects RX2 yX2_copyFrom yX2_copyFrom, Cond.initialized RX2, Cond.code yX2_copyFrom cX2_copyFrom 2 none, Cond.fieldLink RX2 9 "PressGuard$Press" "mode" "I", Cond.fieldLink RX2 15 "PressGuard$Press" "hands" "I", Cond.fieldLink RX2 18 "PressGuard$Press" "since" "I", Cond.fieldLink RX2 21 "PressGuard$Press" "muting" "I", Cond.fieldLink RX2 24 "PressGuard$Press" "mutedFor" "I", Cond.fieldLink RX2 27 "PressGuard$Press" "leftApart" "I", Cond.fieldLink RX2 30 "PressGuard$Press" "rightApart" "I", Cond.fieldLink RX2 33 "PressGuard$Press" "curtainApart" "I", Cond.fieldLink RX2 36 "PressGuard$Press" "unlike" "I", Cond.fieldLink RX2 39 "PressGuard$Press" "command" "I", Cond.fieldLink RX2 42 "PressGuard$Press" "position" "I", Cond.fieldLink RX2 45 "PressGuard$Press" "brake" "I"]
def wsX8_leadsTo_r2 : List Cond := [Cond.fieldLink RX2 48 "PressGuard$Press" "resetSeen" "I", Cond.fieldLink RX2 51 "PressGuard$Press" "lockedBy" "I", Cond.fieldLink RX2 54 "PressGuard$Press" "dangers" "I", Cond.fieldLink RX2 57 "PressGuard$Press" "rounds" "I", Cond.methodLink RX8 125 yX2_advance, Cond.instanceMethod yX2_advance, Cond.selects RX2 yX2_advance yX2_advance, Cond.code yX2_advance cX2_advance 6 none, Cond.fieldLink RX2 64 "PressGuard$Press" "faults" "LPressGuard$Faults;", Cond.methodLink RX2 80 yX0_seenOf, Cond.instanceMethod yX0_seenOf, Cond.selects RX0 yX0_seenOf yX0_seenOf, Cond.initialized RX0, Cond.code yX0_seenOf cX0_seenOf 2 (some .int), Cond.fieldLink RX0 15 "PressGuard$Faults" "stuckOn" "I", Cond.fieldLink RX0 9 "PressGuard$Faults" "stuckOff" "I", Cond.methodLink RX2 86 yX2_apartThen, Cond.static yX2_apartThen, Cond.code yX2_apartThen cX2_apartThen 3 (some .int), Cond.static yX8_pairCount, Cond.code yX8_pairCount cX8_pairCount 2 (some .int), Cond.methodLink RX8 211 yX8_bit, Cond.static yX8_bit, Cond.code yX8_bit cX8_bit 2 (some .int)]
def wsX8_leadsTo_r3 : List Cond := [Cond.methodLink RX2 101 yX2_oneMore, Cond.static yX2_oneMore, Cond.code yX2_oneMore cX2_oneMore 1 (some .int), Cond.methodLink RX2 122 Lib.Math.min.name, Cond.static Lib.Math.min.name, Cond.initialized "java/lang/Math", Cond.code Lib.Math.min.name Lib.Math.min.code 2 (some .int), Cond.methodLink RX2 90 yX2_moveMuting, Cond.instanceMethod yX2_moveMuting, Cond.selects RX2 yX2_moveMuting yX2_moveMuting, Cond.code yX2_moveMuting cX2_moveMuting 2 none, Cond.fieldLink RX2 60 "PressGuard$Press" "settings" "LPressGuard$Settings;", Cond.fieldLink RX2 131 "PressGuard$Settings" "limit" "I", Cond.methodLink RX2 127 yX2_mutingThen, Cond.instanceMethod yX2_mutingThen, Cond.selects RX2 yX2_mutingThen yX2_mutingThen, Cond.code yX2_mutingThen cX2_mutingThen 3 (some .int), Cond.methodLink RX2 108 yX2_isMuted, Cond.instanceMethod yX2_isMuted, Cond.selects RX2 yX2_isMuted yX2_isMuted, Cond.code yX2_isMuted cX2_isMuted 1 (some .boolean), Cond.methodLink RX2 94 yX2_moveHands, Cond.instanceMethod yX2_moveHands, Cond.selects RX2 yX2_moveHands yX2_moveHands]
def wsX8_leadsTo_r4 : List Cond := [Cond.code yX2_moveHands cX2_moveHands 4 none, Cond.methodLink RX2 136 yX2_handsThen, Cond.instanceMethod yX2_handsThen, Cond.selects RX2 yX2_handsThen yX2_handsThen, Cond.code yX2_handsThen cX2_handsThen 3 (some .int), Cond.fieldLink RX2 139 "PressGuard$Settings" "span" "I", Cond.methodLink RX2 97 yX0_valvesObey, Cond.instanceMethod yX0_valvesObey, Cond.selects RX0 yX0_valvesObey yX0_valvesObey, Cond.code yX0_valvesObey cX0_valvesObey 2 (some .boolean), Cond.fieldLink RX0 18 "PressGuard$Faults" "firstValve" "I", Cond.fieldLink RX0 21 "PressGuard$Faults" "secondValve" "I", Cond.methodLink RX0 28 yX0_valveIs, Cond.static yX0_valveIs, Cond.code yX0_valveIs cX0_valveIs 2 (some .int), Cond.methodLink RX2 112 yX2_changeMode, Cond.instanceMethod yX2_changeMode, Cond.selects RX2 yX2_changeMode yX2_changeMode, Cond.code yX2_changeMode cX2_changeMode 7 none, Cond.fieldLink RX2 149 "PressGuard$Settings" "bottom" "I", Cond.methodLink RX2 145 yX2_leastCause, Cond.instanceMethod yX2_leastCause, Cond.selects RX2 yX2_leastCause yX2_leastCause, Cond.code yX2_leastCause cX2_leastCause 1 (some .int)]
def wsX8_leadsTo_r5 : List Cond := [Cond.fieldLink RX2 142 "PressGuard$Settings" "patience" "I", Cond.methodLink RX2 116 yX2_moveSlide, Cond.instanceMethod yX2_moveSlide, Cond.selects RX2 yX2_moveSlide yX2_moveSlide, Cond.code yX2_moveSlide cX2_moveSlide 2 none, Cond.fieldLink RX2 155 "PressGuard$Settings" "overrun" "I", Cond.methodLink RX2 152 yX0_bothOpen, Cond.instanceMethod yX0_bothOpen, Cond.selects RX0 yX0_bothOpen yX0_bothOpen, Cond.code yX0_bothOpen cX0_bothOpen 2 (some .boolean), Cond.methodLink RX2 158 yX2_arriveAtTop, Cond.instanceMethod yX2_arriveAtTop, Cond.selects RX2 yX2_arriveAtTop yX2_arriveAtTop, Cond.code yX2_arriveAtTop cX2_arriveAtTop 1 none]
def wsX8_leadsTo : List Cond := .code yX8_leadsTo cX8_leadsTo 3 (some .int) :: ((wsX8_leadsTo_r1 ++ (wsX8_leadsTo_r2 ++ (wsX8_leadsTo_r3 ++ (wsX8_leadsTo_r4 ++ wsX8_leadsTo_r5)))) ++ wsX80 ++ wsX20 ++ wsX00 ++ wsX50)
def wsX8_locked : List Cond := .code yX8_locked cX8_locked 3 (some .int) :: ([.fieldLink RX8 38 "PressGuard" "notes" "LPressGuard$Notes;", .methodLink RX8 76 yX8_within, .static yX8_within, .initialized RX8, .code yX8_within cX8_within 3 (some .boolean), .methodLink RX8 128 yX1_locksBy, .instanceMethod yX1_locksBy, .selects RX1 yX1_locksBy yX1_locksBy, .initialized RX1, .code yX1_locksBy cX1_locksBy 4 (some .int), .methodLink RX1 48 yX1_locksAt, .instanceMethod yX1_locksAt, .selects RX1 yX1_locksAt yX1_locksAt, .code yX1_locksAt cX1_locksAt 3 (some .int), .fieldLink RX1 9 "PressGuard$Notes" "lockTable" "[I", .methodLink RX8 131 yX1_locksAt] ++ wsX80 ++ wsX10)
def wsX8_cause : List Cond := .code yX8_cause cX8_cause 2 (some .int) :: ([.fieldLink RX8 38 "PressGuard" "notes" "LPressGuard$Notes;", .methodLink RX8 76 yX8_within, .static yX8_within, .initialized RX8, .code yX8_within cX8_within 3 (some .boolean), .methodLink RX8 135 yX1_causeInOrder, .instanceMethod yX1_causeInOrder, .selects RX1 yX1_causeInOrder yX1_causeInOrder, .initialized RX1, .code yX1_causeInOrder cX1_causeInOrder 2 (some .int), .fieldLink RX1 21 "PressGuard$Notes" "causesKnown" "I", .fieldLink RX1 15 "PressGuard$Notes" "causeOrder" "[I"] ++ wsX80 ++ wsX10)
def wsX8_followed : List Cond := .code yX8_followed cX8_followed 2 (some .int) :: ([.fieldLink RX8 38 "PressGuard" "notes" "LPressGuard$Notes;", .methodLink RX8 76 yX8_within, .static yX8_within, .initialized RX8, .code yX8_within cX8_within 3 (some .boolean), .methodLink RX8 138 yX1_modesBehind, .instanceMethod yX1_modesBehind, .selects RX1 yX1_modesBehind yX1_modesBehind, .initialized RX1, .code yX1_modesBehind cX1_modesBehind 2 (some .int), .fieldLink RX1 18 "PressGuard$Notes" "behind" "[I"] ++ wsX80 ++ wsX10)
def wsX8_places : List Cond := .code yX8_places cX8_places 1 (some .int) :: ([.fieldLink RX8 38 "PressGuard" "notes" "LPressGuard$Notes;", .fieldLink RX8 141 "PressGuard$Notes" "lockPlaces" "I", .methodLink RX8 144 yJ6_bitCount_0f7a4, .static yJ6_bitCount_0f7a4, .initialized RJ6, .code yJ6_bitCount_0f7a4 cJ6_bitCount_0f7a4 1 (some .int), .constant RJ6 265 (1431655765), .constant RJ6 266 (858993459), .constant RJ6 267 (252645135)] ++ wsX80 ++ wsX10)
def wsX8_step : List Cond := .code yX8_step cX8_step 2 (some .int) :: ([.fieldLink RX8 45 "PressGuard" "script" "LPressGuard$Script;", .fieldLink RX8 149 "PressGuard$Script" "count" "I", .fieldLink RX8 72 "PressGuard" "sumsHold" "Z", .methodLink RX8 105 yX8_isSet, .static yX8_isSet, .initialized RX8, .code yX8_isSet cX8_isSet 1 (some .boolean), .methodLink RX8 76 yX8_within, .static yX8_within, .code yX8_within cX8_within 3 (some .boolean), .methodLink RX8 152 yX3_append, .instanceMethod yX3_append, .selects RX3 yX3_append yX3_append, .initialized RX3, .code yX3_append cX3_append 2 none, .fieldLink RX3 15 "PressGuard$Script" "count" "I", .fieldLink RX3 9 "PressGuard$Script" "sets" "[I"] ++ wsX80 ++ wsX30)
def wsX8_wipe : List Cond := .code yX8_wipe cX8_wipe 2 (some .int) :: ([.fieldLink RX8 45 "PressGuard" "script" "LPressGuard$Script;", .fieldLink RX8 149 "PressGuard$Script" "count" "I", .fieldLink RX8 72 "PressGuard" "sumsHold" "Z"] ++ wsX80 ++ wsX30)
def wsX8_stepAt : List Cond := .code yX8_stepAt cX8_stepAt 2 (some .int) :: ([.fieldLink RX8 45 "PressGuard" "script" "LPressGuard$Script;", .fieldLink RX8 149 "PressGuard$Script" "count" "I", .methodLink RX8 76 yX8_within, .static yX8_within, .initialized RX8, .code yX8_within cX8_within 3 (some .boolean), .methodLink RX8 155 yX3_setAt, .instanceMethod yX3_setAt, .selects RX3 yX3_setAt yX3_setAt, .initialized RX3, .code yX3_setAt cX3_setAt 2 (some .int), .fieldLink RX3 9 "PressGuard$Script" "sets" "[I"] ++ wsX80 ++ wsX30)
def wsX8_trial_r1 : List Cond := [Cond.fieldLink RX8 45 "PressGuard" "script" "LPressGuard$Script;", Cond.fieldLink RX8 149 "PressGuard$Script" "count" "I", Cond.fieldLink RX8 54 "PressGuard" "stuckTrial" "LPressGuard$Trial;", Cond.methodLink RX8 76 yX8_within, Cond.static yX8_within, Cond.initialized RX8, Cond.code yX8_within cX8_within 3 (some .boolean), Cond.methodLink RX8 158 yX6_run, Cond.instanceMethod yX6_run, Cond.selects RX6 yX6_run yX6_run, Cond.initialized RX6, Cond.code yX6_run cX6_run 6 none, Cond.fieldLink RX6 12 "PressGuard$Trial" "faults" "LPressGuard$Faults;", Cond.fieldLink RX6 30 "PressGuard$Trial" "press" "LPressGuard$Press;", Cond.fieldLink RX6 18 "PressGuard$Trial" "firstLock" "I", Cond.fieldLink RX6 22 "PressGuard$Trial" "firstCause" "I", Cond.fieldLink RX6 40 "PressGuard$Script" "count" "I", Cond.fieldLink RX6 57 "PressGuard$Press" "mode" "I", Cond.fieldLink RX6 60 "PressGuard$Press" "lockedBy" "I", Cond.methodLink RX6 34 yX0_clear, Cond.instanceMethod yX0_clear, Cond.selects RX0 yX0_clear yX0_clear, Cond.initialized RX0, Cond.code yX0_clear cX0_clear 1 none]
def wsX8_trial_r2 : List Cond := [Cond.fieldLink RX0 9 "PressGuard$Faults" "stuckOff" "I", Cond.fieldLink RX0 15 "PressGuard$Faults" "stuckOn" "I", Cond.fieldLink RX0 18 "PressGuard$Faults" "firstValve" "I", Cond.fieldLink RX0 21 "PressGuard$Faults" "secondValve" "I", Cond.methodLink RX6 37 yX2_begin, Cond.instanceMethod yX2_begin, Cond.selects RX2 yX2_begin yX2_begin, Cond.initialized RX2, Cond.code yX2_begin cX2_begin 1 none, Cond.fieldLink RX2 9 "PressGuard$Press" "mode" "I", Cond.fieldLink RX2 15 "PressGuard$Press" "hands" "I", Cond.fieldLink RX2 18 "PressGuard$Press" "since" "I", Cond.fieldLink RX2 21 "PressGuard$Press" "muting" "I", Cond.fieldLink RX2 24 "PressGuard$Press" "mutedFor" "I", Cond.fieldLink RX2 27 "PressGuard$Press" "leftApart" "I", Cond.fieldLink RX2 30 "PressGuard$Press" "rightApart" "I", Cond.fieldLink RX2 33 "PressGuard$Press" "curtainApart" "I", Cond.fieldLink RX2 36 "PressGuard$Press" "unlike" "I", Cond.fieldLink RX2 39 "PressGuard$Press" "command" "I", Cond.fieldLink RX2 42 "PressGuard$Press" "position" "I", Cond.fieldLink RX2 45 "PressGuard$Press" "brake" "I", Cond.fieldLink RX2 48 "PressGuard$Press" "resetSeen" "I", Cond.fieldLink RX2 51 "PressGuard$Press" "lockedBy" "I", Cond.fieldLink RX2 54 "PressGuard$Press" "dangers" "I"]
def wsX8_trial_r3 : List Cond := [Cond.fieldLink RX2 57 "PressGuard$Press" "rounds" "I", Cond.methodLink RX6 45 yX0_setInput, Cond.instanceMethod yX0_setInput, Cond.selects RX0 yX0_setInput yX0_setInput, Cond.code yX0_setInput cX0_setInput 4 none, Cond.methodLink RX6 49 yX3_setAt, Cond.instanceMethod yX3_setAt, Cond.selects RX3 yX3_setAt yX3_setAt, Cond.initialized RX3, Cond.code yX3_setAt cX3_setAt 2 (some .int), Cond.fieldLink RX3 9 "PressGuard$Script" "sets" "[I", Cond.methodLink RX6 53 yX2_advance, Cond.instanceMethod yX2_advance, Cond.selects RX2 yX2_advance yX2_advance, Cond.code yX2_advance cX2_advance 6 none, Cond.fieldLink RX2 64 "PressGuard$Press" "faults" "LPressGuard$Faults;", Cond.methodLink RX2 80 yX0_seenOf, Cond.instanceMethod yX0_seenOf, Cond.selects RX0 yX0_seenOf yX0_seenOf, Cond.code yX0_seenOf cX0_seenOf 2 (some .int), Cond.methodLink RX2 86 yX2_apartThen, Cond.static yX2_apartThen, Cond.code yX2_apartThen cX2_apartThen 3 (some .int), Cond.static yX8_pairCount]
def wsX8_trial_r4 : List Cond := [Cond.code yX8_pairCount cX8_pairCount 2 (some .int), Cond.methodLink RX8 211 yX8_bit, Cond.static yX8_bit, Cond.code yX8_bit cX8_bit 2 (some .int), Cond.methodLink RX2 101 yX2_oneMore, Cond.static yX2_oneMore, Cond.code yX2_oneMore cX2_oneMore 1 (some .int), Cond.methodLink RX2 122 Lib.Math.min.name, Cond.static Lib.Math.min.name, Cond.initialized "java/lang/Math", Cond.code Lib.Math.min.name Lib.Math.min.code 2 (some .int), Cond.methodLink RX2 90 yX2_moveMuting, Cond.instanceMethod yX2_moveMuting, Cond.selects RX2 yX2_moveMuting yX2_moveMuting, Cond.code yX2_moveMuting cX2_moveMuting 2 none, Cond.fieldLink RX2 60 "PressGuard$Press" "settings" "LPressGuard$Settings;", Cond.fieldLink RX2 131 "PressGuard$Settings" "limit" "I", Cond.methodLink RX2 127 yX2_mutingThen, Cond.instanceMethod yX2_mutingThen, Cond.selects RX2 yX2_mutingThen yX2_mutingThen, Cond.code yX2_mutingThen cX2_mutingThen 3 (some .int), Cond.methodLink RX2 108 yX2_isMuted, Cond.instanceMethod yX2_isMuted, Cond.selects RX2 yX2_isMuted yX2_isMuted]
def wsX8_trial_r5 : List Cond := [Cond.code yX2_isMuted cX2_isMuted 1 (some .boolean), Cond.methodLink RX2 94 yX2_moveHands, Cond.instanceMethod yX2_moveHands, Cond.selects RX2 yX2_moveHands yX2_moveHands, Cond.code yX2_moveHands cX2_moveHands 4 none, Cond.methodLink RX2 136 yX2_handsThen, Cond.instanceMethod yX2_handsThen, Cond.selects RX2 yX2_handsThen yX2_handsThen, Cond.code yX2_handsThen cX2_handsThen 3 (some .int), Cond.fieldLink RX2 139 "PressGuard$Settings" "span" "I", Cond.methodLink RX2 97 yX0_valvesObey, Cond.instanceMethod yX0_valvesObey, Cond.selects RX0 yX0_valvesObey yX0_valvesObey, Cond.code yX0_valvesObey cX0_valvesObey 2 (some .boolean), Cond.methodLink RX0 28 yX0_valveIs, Cond.static yX0_valveIs, Cond.code yX0_valveIs cX0_valveIs 2 (some .int), Cond.methodLink RX2 112 yX2_changeMode, Cond.instanceMethod yX2_changeMode, Cond.selects RX2 yX2_changeMode yX2_changeMode, Cond.code yX2_changeMode cX2_changeMode 7 none, Cond.fieldLink RX2 149 "PressGuard$Settings" "bottom" "I", Cond.methodLink RX2 145 yX2_leastCause, Cond.instanceMethod yX2_leastCause]
def wsX8_trial_r6 : List Cond := [Cond.selects RX2 yX2_leastCause yX2_leastCause, Cond.code yX2_leastCause cX2_leastCause 1 (some .int), Cond.fieldLink RX2 142 "PressGuard$Settings" "patience" "I", Cond.methodLink RX2 116 yX2_moveSlide, Cond.instanceMethod yX2_moveSlide, Cond.selects RX2 yX2_moveSlide yX2_moveSlide, Cond.code yX2_moveSlide cX2_moveSlide 2 none, Cond.fieldLink RX2 155 "PressGuard$Settings" "overrun" "I", Cond.methodLink RX2 152 yX0_bothOpen, Cond.instanceMethod yX0_bothOpen, Cond.selects RX0 yX0_bothOpen yX0_bothOpen, Cond.code yX0_bothOpen cX0_bothOpen 2 (some .boolean), Cond.methodLink RX2 158 yX2_arriveAtTop, Cond.instanceMethod yX2_arriveAtTop, Cond.selects RX2 yX2_arriveAtTop yX2_arriveAtTop, Cond.code yX2_arriveAtTop cX2_arriveAtTop 1 none, Cond.methodLink RX8 162 yX6_part, Cond.instanceMethod yX6_part, Cond.selects RX6 yX6_part yX6_part, Cond.code yX6_part cX6_part 2 (some .int), Cond.fieldLink RX6 63 "PressGuard$Press" "dangers" "I", Cond.fieldLink RX6 66 "PressGuard$Press" "rounds" "I"]
def wsX8_trial : List Cond := .code yX8_trial cX8_trial 5 (some .int) :: ((wsX8_trial_r1 ++ (wsX8_trial_r2 ++ (wsX8_trial_r3 ++ (wsX8_trial_r4 ++ (wsX8_trial_r5 ++ wsX8_trial_r6))))) ++ wsX80 ++ wsX30 ++ wsX60 ++ wsX20 ++ wsX00 ++ wsX50)
def wsX8_sumUpTrialsOf_r1 : List Cond := [Cond.fieldLink RX8 54 "PressGuard" "stuckTrial" "LPressGuard$Trial;", Cond.fieldLink RX8 45 "PressGuard" "script" "LPressGuard$Script;", Cond.fieldLink RX8 149 "PressGuard$Script" "count" "I", Cond.fieldLink RX8 61 "PressGuard" "sums" "LPressGuard$TrialSums;", Cond.methodLink RX8 158 yX6_run, Cond.instanceMethod yX6_run, Cond.selects RX6 yX6_run yX6_run, Cond.initialized RX6, Cond.code yX6_run cX6_run 6 none, Cond.fieldLink RX6 12 "PressGuard$Trial" "faults" "LPressGuard$Faults;", Cond.fieldLink RX6 30 "PressGuard$Trial" "press" "LPressGuard$Press;", Cond.fieldLink RX6 18 "PressGuard$Trial" "firstLock" "I", Cond.fieldLink RX6 22 "PressGuard$Trial" "firstCause" "I", Cond.fieldLink RX6 40 "PressGuard$Script" "count" "I", Cond.fieldLink RX6 57 "PressGuard$Press" "mode" "I", Cond.fieldLink RX6 60 "PressGuard$Press" "lockedBy" "I", Cond.methodLink RX6 34 yX0_clear, Cond.instanceMethod yX0_clear, Cond.selects RX0 yX0_clear yX0_clear, Cond.initialized RX0, Cond.code yX0_clear cX0_clear 1 none, Cond.fieldLink RX0 9 "PressGuard$Faults" "stuckOff" "I", Cond.fieldLink RX0 15 "PressGuard$Faults" "stuckOn" "I", Cond.fieldLink RX0 18 "PressGuard$Faults" "firstValve" "I"]
def wsX8_sumUpTrialsOf_r2 : List Cond := [Cond.fieldLink RX0 21 "PressGuard$Faults" "secondValve" "I", Cond.methodLink RX6 37 yX2_begin, Cond.instanceMethod yX2_begin, Cond.selects RX2 yX2_begin yX2_begin, Cond.initialized RX2, Cond.code yX2_begin cX2_begin 1 none, Cond.fieldLink RX2 9 "PressGuard$Press" "mode" "I", Cond.fieldLink RX2 15 "PressGuard$Press" "hands" "I", Cond.fieldLink RX2 18 "PressGuard$Press" "since" "I", Cond.fieldLink RX2 21 "PressGuard$Press" "muting" "I", Cond.fieldLink RX2 24 "PressGuard$Press" "mutedFor" "I", Cond.fieldLink RX2 27 "PressGuard$Press" "leftApart" "I", Cond.fieldLink RX2 30 "PressGuard$Press" "rightApart" "I", Cond.fieldLink RX2 33 "PressGuard$Press" "curtainApart" "I", Cond.fieldLink RX2 36 "PressGuard$Press" "unlike" "I", Cond.fieldLink RX2 39 "PressGuard$Press" "command" "I", Cond.fieldLink RX2 42 "PressGuard$Press" "position" "I", Cond.fieldLink RX2 45 "PressGuard$Press" "brake" "I", Cond.fieldLink RX2 48 "PressGuard$Press" "resetSeen" "I", Cond.fieldLink RX2 51 "PressGuard$Press" "lockedBy" "I", Cond.fieldLink RX2 54 "PressGuard$Press" "dangers" "I", Cond.fieldLink RX2 57 "PressGuard$Press" "rounds" "I", Cond.methodLink RX6 45 yX0_setInput, Cond.instanceMethod yX0_setInput]
def wsX8_sumUpTrialsOf_r3 : List Cond := [Cond.selects RX0 yX0_setInput yX0_setInput, Cond.code yX0_setInput cX0_setInput 4 none, Cond.methodLink RX6 49 yX3_setAt, Cond.instanceMethod yX3_setAt, Cond.selects RX3 yX3_setAt yX3_setAt, Cond.initialized RX3, Cond.code yX3_setAt cX3_setAt 2 (some .int), Cond.fieldLink RX3 9 "PressGuard$Script" "sets" "[I", Cond.static yX8_within, Cond.initialized RX8, Cond.code yX8_within cX8_within 3 (some .boolean), Cond.methodLink RX6 53 yX2_advance, Cond.instanceMethod yX2_advance, Cond.selects RX2 yX2_advance yX2_advance, Cond.code yX2_advance cX2_advance 6 none, Cond.fieldLink RX2 64 "PressGuard$Press" "faults" "LPressGuard$Faults;", Cond.methodLink RX2 80 yX0_seenOf, Cond.instanceMethod yX0_seenOf, Cond.selects RX0 yX0_seenOf yX0_seenOf, Cond.code yX0_seenOf cX0_seenOf 2 (some .int), Cond.methodLink RX2 86 yX2_apartThen, Cond.static yX2_apartThen, Cond.code yX2_apartThen cX2_apartThen 3 (some .int), Cond.static yX8_pairCount]
def wsX8_sumUpTrialsOf_r4 : List Cond := [Cond.code yX8_pairCount cX8_pairCount 2 (some .int), Cond.methodLink RX8 211 yX8_bit, Cond.static yX8_bit, Cond.code yX8_bit cX8_bit 2 (some .int), Cond.methodLink RX2 101 yX2_oneMore, Cond.static yX2_oneMore, Cond.code yX2_oneMore cX2_oneMore 1 (some .int), Cond.methodLink RX2 122 Lib.Math.min.name, Cond.static Lib.Math.min.name, Cond.initialized "java/lang/Math", Cond.code Lib.Math.min.name Lib.Math.min.code 2 (some .int), Cond.methodLink RX2 90 yX2_moveMuting, Cond.instanceMethod yX2_moveMuting, Cond.selects RX2 yX2_moveMuting yX2_moveMuting, Cond.code yX2_moveMuting cX2_moveMuting 2 none, Cond.fieldLink RX2 60 "PressGuard$Press" "settings" "LPressGuard$Settings;", Cond.fieldLink RX2 131 "PressGuard$Settings" "limit" "I", Cond.methodLink RX2 127 yX2_mutingThen, Cond.instanceMethod yX2_mutingThen, Cond.selects RX2 yX2_mutingThen yX2_mutingThen, Cond.code yX2_mutingThen cX2_mutingThen 3 (some .int), Cond.methodLink RX2 108 yX2_isMuted, Cond.instanceMethod yX2_isMuted, Cond.selects RX2 yX2_isMuted yX2_isMuted]
def wsX8_sumUpTrialsOf_r5 : List Cond := [Cond.code yX2_isMuted cX2_isMuted 1 (some .boolean), Cond.methodLink RX2 94 yX2_moveHands, Cond.instanceMethod yX2_moveHands, Cond.selects RX2 yX2_moveHands yX2_moveHands, Cond.code yX2_moveHands cX2_moveHands 4 none, Cond.methodLink RX2 136 yX2_handsThen, Cond.instanceMethod yX2_handsThen, Cond.selects RX2 yX2_handsThen yX2_handsThen, Cond.code yX2_handsThen cX2_handsThen 3 (some .int), Cond.fieldLink RX2 139 "PressGuard$Settings" "span" "I", Cond.methodLink RX2 97 yX0_valvesObey, Cond.instanceMethod yX0_valvesObey, Cond.selects RX0 yX0_valvesObey yX0_valvesObey, Cond.code yX0_valvesObey cX0_valvesObey 2 (some .boolean), Cond.methodLink RX0 28 yX0_valveIs, Cond.static yX0_valveIs, Cond.code yX0_valveIs cX0_valveIs 2 (some .int), Cond.methodLink RX2 112 yX2_changeMode, Cond.instanceMethod yX2_changeMode, Cond.selects RX2 yX2_changeMode yX2_changeMode, Cond.code yX2_changeMode cX2_changeMode 7 none, Cond.fieldLink RX2 149 "PressGuard$Settings" "bottom" "I", Cond.methodLink RX2 145 yX2_leastCause, Cond.instanceMethod yX2_leastCause]
def wsX8_sumUpTrialsOf_r6 : List Cond := [Cond.selects RX2 yX2_leastCause yX2_leastCause, Cond.code yX2_leastCause cX2_leastCause 1 (some .int), Cond.fieldLink RX2 142 "PressGuard$Settings" "patience" "I", Cond.methodLink RX2 116 yX2_moveSlide, Cond.instanceMethod yX2_moveSlide, Cond.selects RX2 yX2_moveSlide yX2_moveSlide, Cond.code yX2_moveSlide cX2_moveSlide 2 none, Cond.fieldLink RX2 155 "PressGuard$Settings" "overrun" "I", Cond.methodLink RX2 152 yX0_bothOpen, Cond.instanceMethod yX0_bothOpen, Cond.selects RX0 yX0_bothOpen yX0_bothOpen, Cond.code yX0_bothOpen cX0_bothOpen 2 (some .boolean), Cond.methodLink RX2 158 yX2_arriveAtTop, Cond.instanceMethod yX2_arriveAtTop, Cond.selects RX2 yX2_arriveAtTop yX2_arriveAtTop, Cond.code yX2_arriveAtTop cX2_arriveAtTop 1 none, Cond.methodLink RX8 155 yX3_setAt, Cond.methodLink RX8 214 yX7_add, Cond.instanceMethod yX7_add, Cond.selects RX7 yX7_add yX7_add, Cond.initialized RX7, Cond.code yX7_add cX7_add 3 none, Cond.fieldLink RX7 15 "PressGuard$TrialSums" "count" "I", Cond.fieldLink RX7 33 "PressGuard$Trial" "press" "LPressGuard$Press;"]
def wsX8_sumUpTrialsOf_r7 : List Cond := [Cond.fieldLink RX7 39 "PressGuard$Press" "dangers" "I", Cond.fieldLink RX7 18 "PressGuard$TrialSums" "dangerous" "I", Cond.fieldLink RX7 44 "PressGuard$Trial" "firstLock" "I", Cond.fieldLink RX7 21 "PressGuard$TrialSums" "everLocked" "I", Cond.fieldLink RX7 24 "PressGuard$TrialSums" "longestToLock" "I", Cond.methodLink RX7 47 Lib.Math.max.name, Cond.static Lib.Math.max.name, Cond.code Lib.Math.max.name Lib.Math.max.code 2 (some .int), Cond.fieldLink RX7 27 "PressGuard$TrialSums" "mostDangers" "I", Cond.fieldLink RX7 53 "PressGuard$Press" "rounds" "I", Cond.fieldLink RX7 9 "PressGuard$TrialSums" "soundRounds" "I", Cond.fieldLink RX7 30 "PressGuard$TrialSums" "fewerRounds" "I"]
def wsX8_sumUpTrialsOf : List Cond := .code yX8_sumUpTrialsOf cX8_sumUpTrialsOf 4 none :: ((wsX8_sumUpTrialsOf_r1 ++ (wsX8_sumUpTrialsOf_r2 ++ (wsX8_sumUpTrialsOf_r3 ++ (wsX8_sumUpTrialsOf_r4 ++ (wsX8_sumUpTrialsOf_r5 ++ (wsX8_sumUpTrialsOf_r6 ++ wsX8_sumUpTrialsOf_r7)))))) ++ wsX80 ++ wsX30 ++ wsX60 ++ wsX20 ++ wsX00 ++ wsX50 ++ wsX70)
def wsX8_sumUpTrials_r1 : List Cond := [Cond.fieldLink RX8 54 "PressGuard" "stuckTrial" "LPressGuard$Trial;", Cond.fieldLink RX8 45 "PressGuard" "script" "LPressGuard$Script;", Cond.fieldLink RX8 149 "PressGuard$Script" "count" "I", Cond.fieldLink RX8 61 "PressGuard" "sums" "LPressGuard$TrialSums;", Cond.fieldLink RX8 205 "PressGuard$Trial" "press" "LPressGuard$Press;", Cond.fieldLink RX8 177 "PressGuard$Press" "rounds" "I", Cond.methodLink RX8 158 yX6_run, Cond.instanceMethod yX6_run, Cond.selects RX6 yX6_run yX6_run, Cond.initialized RX6, Cond.code yX6_run cX6_run 6 none, Cond.fieldLink RX6 12 "PressGuard$Trial" "faults" "LPressGuard$Faults;", Cond.fieldLink RX6 30 "PressGuard$Trial" "press" "LPressGuard$Press;", Cond.fieldLink RX6 18 "PressGuard$Trial" "firstLock" "I", Cond.fieldLink RX6 22 "PressGuard$Trial" "firstCause" "I", Cond.fieldLink RX6 40 "PressGuard$Script" "count" "I", Cond.fieldLink RX6 57 "PressGuard$Press" "mode" "I", Cond.fieldLink RX6 60 "PressGuard$Press" "lockedBy" "I", Cond.methodLink RX6 34 yX0_clear, Cond.instanceMethod yX0_clear, Cond.selects RX0 yX0_clear yX0_clear, Cond.initialized RX0, Cond.code yX0_clear cX0_clear 1 none, Cond.fieldLink RX0 9 "PressGuard$Faults" "stuckOff" "I"]
def wsX8_sumUpTrials_r2 : List Cond := [Cond.fieldLink RX0 15 "PressGuard$Faults" "stuckOn" "I", Cond.fieldLink RX0 18 "PressGuard$Faults" "firstValve" "I", Cond.fieldLink RX0 21 "PressGuard$Faults" "secondValve" "I", Cond.methodLink RX6 37 yX2_begin, Cond.instanceMethod yX2_begin, Cond.selects RX2 yX2_begin yX2_begin, Cond.initialized RX2, Cond.code yX2_begin cX2_begin 1 none, Cond.fieldLink RX2 9 "PressGuard$Press" "mode" "I", Cond.fieldLink RX2 15 "PressGuard$Press" "hands" "I", Cond.fieldLink RX2 18 "PressGuard$Press" "since" "I", Cond.fieldLink RX2 21 "PressGuard$Press" "muting" "I", Cond.fieldLink RX2 24 "PressGuard$Press" "mutedFor" "I", Cond.fieldLink RX2 27 "PressGuard$Press" "leftApart" "I", Cond.fieldLink RX2 30 "PressGuard$Press" "rightApart" "I", Cond.fieldLink RX2 33 "PressGuard$Press" "curtainApart" "I", Cond.fieldLink RX2 36 "PressGuard$Press" "unlike" "I", Cond.fieldLink RX2 39 "PressGuard$Press" "command" "I", Cond.fieldLink RX2 42 "PressGuard$Press" "position" "I", Cond.fieldLink RX2 45 "PressGuard$Press" "brake" "I", Cond.fieldLink RX2 48 "PressGuard$Press" "resetSeen" "I", Cond.fieldLink RX2 51 "PressGuard$Press" "lockedBy" "I", Cond.fieldLink RX2 54 "PressGuard$Press" "dangers" "I", Cond.fieldLink RX2 57 "PressGuard$Press" "rounds" "I"]
def wsX8_sumUpTrials_r3 : List Cond := [Cond.methodLink RX6 45 yX0_setInput, Cond.instanceMethod yX0_setInput, Cond.selects RX0 yX0_setInput yX0_setInput, Cond.code yX0_setInput cX0_setInput 4 none, Cond.methodLink RX6 49 yX3_setAt, Cond.instanceMethod yX3_setAt, Cond.selects RX3 yX3_setAt yX3_setAt, Cond.initialized RX3, Cond.code yX3_setAt cX3_setAt 2 (some .int), Cond.fieldLink RX3 9 "PressGuard$Script" "sets" "[I", Cond.static yX8_within, Cond.initialized RX8, Cond.code yX8_within cX8_within 3 (some .boolean), Cond.methodLink RX6 53 yX2_advance, Cond.instanceMethod yX2_advance, Cond.selects RX2 yX2_advance yX2_advance, Cond.code yX2_advance cX2_advance 6 none, Cond.fieldLink RX2 64 "PressGuard$Press" "faults" "LPressGuard$Faults;", Cond.methodLink RX2 80 yX0_seenOf, Cond.instanceMethod yX0_seenOf, Cond.selects RX0 yX0_seenOf yX0_seenOf, Cond.code yX0_seenOf cX0_seenOf 2 (some .int), Cond.methodLink RX2 86 yX2_apartThen, Cond.static yX2_apartThen]
def wsX8_sumUpTrials_r4 : List Cond := [Cond.code yX2_apartThen cX2_apartThen 3 (some .int), Cond.static yX8_pairCount, Cond.code yX8_pairCount cX8_pairCount 2 (some .int), Cond.methodLink RX8 211 yX8_bit, Cond.static yX8_bit, Cond.code yX8_bit cX8_bit 2 (some .int), Cond.methodLink RX2 101 yX2_oneMore, Cond.static yX2_oneMore, Cond.code yX2_oneMore cX2_oneMore 1 (some .int), Cond.methodLink RX2 122 Lib.Math.min.name, Cond.static Lib.Math.min.name, Cond.initialized "java/lang/Math", Cond.code Lib.Math.min.name Lib.Math.min.code 2 (some .int), Cond.methodLink RX2 90 yX2_moveMuting, Cond.instanceMethod yX2_moveMuting, Cond.selects RX2 yX2_moveMuting yX2_moveMuting, Cond.code yX2_moveMuting cX2_moveMuting 2 none, Cond.fieldLink RX2 60 "PressGuard$Press" "settings" "LPressGuard$Settings;", Cond.fieldLink RX2 131 "PressGuard$Settings" "limit" "I", Cond.methodLink RX2 127 yX2_mutingThen, Cond.instanceMethod yX2_mutingThen, Cond.selects RX2 yX2_mutingThen yX2_mutingThen, Cond.code yX2_mutingThen cX2_mutingThen 3 (some .int), Cond.methodLink RX2 108 yX2_isMuted]
def wsX8_sumUpTrials_r5 : List Cond := [Cond.instanceMethod yX2_isMuted, Cond.selects RX2 yX2_isMuted yX2_isMuted, Cond.code yX2_isMuted cX2_isMuted 1 (some .boolean), Cond.methodLink RX2 94 yX2_moveHands, Cond.instanceMethod yX2_moveHands, Cond.selects RX2 yX2_moveHands yX2_moveHands, Cond.code yX2_moveHands cX2_moveHands 4 none, Cond.methodLink RX2 136 yX2_handsThen, Cond.instanceMethod yX2_handsThen, Cond.selects RX2 yX2_handsThen yX2_handsThen, Cond.code yX2_handsThen cX2_handsThen 3 (some .int), Cond.fieldLink RX2 139 "PressGuard$Settings" "span" "I", Cond.methodLink RX2 97 yX0_valvesObey, Cond.instanceMethod yX0_valvesObey, Cond.selects RX0 yX0_valvesObey yX0_valvesObey, Cond.code yX0_valvesObey cX0_valvesObey 2 (some .boolean), Cond.methodLink RX0 28 yX0_valveIs, Cond.static yX0_valveIs, Cond.code yX0_valveIs cX0_valveIs 2 (some .int), Cond.methodLink RX2 112 yX2_changeMode, Cond.instanceMethod yX2_changeMode, Cond.selects RX2 yX2_changeMode yX2_changeMode, Cond.code yX2_changeMode cX2_changeMode 7 none, Cond.fieldLink RX2 149 "PressGuard$Settings" "bottom" "I"]
def wsX8_sumUpTrials_r6 : List Cond := [Cond.methodLink RX2 145 yX2_leastCause, Cond.instanceMethod yX2_leastCause, Cond.selects RX2 yX2_leastCause yX2_leastCause, Cond.code yX2_leastCause cX2_leastCause 1 (some .int), Cond.fieldLink RX2 142 "PressGuard$Settings" "patience" "I", Cond.methodLink RX2 116 yX2_moveSlide, Cond.instanceMethod yX2_moveSlide, Cond.selects RX2 yX2_moveSlide yX2_moveSlide, Cond.code yX2_moveSlide cX2_moveSlide 2 none, Cond.fieldLink RX2 155 "PressGuard$Settings" "overrun" "I", Cond.methodLink RX2 152 yX0_bothOpen, Cond.instanceMethod yX0_bothOpen, Cond.selects RX0 yX0_bothOpen yX0_bothOpen, Cond.code yX0_bothOpen cX0_bothOpen 2 (some .boolean), Cond.methodLink RX2 158 yX2_arriveAtTop, Cond.instanceMethod yX2_arriveAtTop, Cond.selects RX2 yX2_arriveAtTop yX2_arriveAtTop, Cond.code yX2_arriveAtTop cX2_arriveAtTop 1 none, Cond.methodLink RX8 206 yX7_begin, Cond.instanceMethod yX7_begin, Cond.selects RX7 yX7_begin yX7_begin, Cond.initialized RX7, Cond.code yX7_begin cX7_begin 2 none, Cond.fieldLink RX7 9 "PressGuard$TrialSums" "soundRounds" "I"]
def wsX8_sumUpTrials_r7 : List Cond := [Cond.fieldLink RX7 15 "PressGuard$TrialSums" "count" "I", Cond.fieldLink RX7 18 "PressGuard$TrialSums" "dangerous" "I", Cond.fieldLink RX7 21 "PressGuard$TrialSums" "everLocked" "I", Cond.fieldLink RX7 24 "PressGuard$TrialSums" "longestToLock" "I", Cond.fieldLink RX7 27 "PressGuard$TrialSums" "mostDangers" "I", Cond.fieldLink RX7 30 "PressGuard$TrialSums" "fewerRounds" "I", Cond.methodLink RX8 208 yX8_sumUpTrialsOf, Cond.instanceMethod yX8_sumUpTrialsOf, Cond.selects RX8 yX8_sumUpTrialsOf yX8_sumUpTrialsOf, Cond.code yX8_sumUpTrialsOf cX8_sumUpTrialsOf 4 none, Cond.methodLink RX8 155 yX3_setAt, Cond.methodLink RX8 214 yX7_add, Cond.instanceMethod yX7_add, Cond.selects RX7 yX7_add yX7_add, Cond.code yX7_add cX7_add 3 none, Cond.fieldLink RX7 33 "PressGuard$Trial" "press" "LPressGuard$Press;", Cond.fieldLink RX7 39 "PressGuard$Press" "dangers" "I", Cond.fieldLink RX7 44 "PressGuard$Trial" "firstLock" "I", Cond.methodLink RX7 47 Lib.Math.max.name, Cond.static Lib.Math.max.name, Cond.code Lib.Math.max.name Lib.Math.max.code 2 (some .int), Cond.fieldLink RX7 53 "PressGuard$Press" "rounds" "I"]
def wsX8_sumUpTrials : List Cond := .code yX8_sumUpTrials cX8_sumUpTrials 2 none :: ((wsX8_sumUpTrials_r1 ++ (wsX8_sumUpTrials_r2 ++ (wsX8_sumUpTrials_r3 ++ (wsX8_sumUpTrials_r4 ++ (wsX8_sumUpTrials_r5 ++ (wsX8_sumUpTrials_r6 ++ wsX8_sumUpTrials_r7)))))) ++ wsX80 ++ wsX30 ++ wsX60 ++ wsX20 ++ wsX00 ++ wsX50 ++ wsX70)
def wsX8_trials_r1 : List Cond := [Cond.fieldLink RX8 72 "PressGuard" "sumsHold" "Z", Cond.fieldLink RX8 61 "PressGuard" "sums" "LPressGuard$TrialSums;", Cond.methodLink RX8 76 yX8_within, Cond.static yX8_within, Cond.initialized RX8, Cond.code yX8_within cX8_within 3 (some .boolean), Cond.methodLink RX8 163 yX8_sumUpTrials, Cond.instanceMethod yX8_sumUpTrials, Cond.selects RX8 yX8_sumUpTrials yX8_sumUpTrials, Cond.code yX8_sumUpTrials cX8_sumUpTrials 2 none, Cond.fieldLink RX8 54 "PressGuard" "stuckTrial" "LPressGuard$Trial;", Cond.fieldLink RX8 45 "PressGuard" "script" "LPressGuard$Script;", Cond.fieldLink RX8 149 "PressGuard$Script" "count" "I", Cond.fieldLink RX8 205 "PressGuard$Trial" "press" "LPressGuard$Press;", Cond.fieldLink RX8 177 "PressGuard$Press" "rounds" "I", Cond.methodLink RX8 158 yX6_run, Cond.instanceMethod yX6_run, Cond.selects RX6 yX6_run yX6_run, Cond.initialized RX6, Cond.code yX6_run cX6_run 6 none, Cond.fieldLink RX6 12 "PressGuard$Trial" "faults" "LPressGuard$Faults;", Cond.fieldLink RX6 30 "PressGuard$Trial" "press" "LPressGuard$Press;", Cond.fieldLink RX6 18 "PressGuard$Trial" "firstLock" "I", Cond.fieldLink RX6 22 "PressGuard$Trial" "firstCause" "I"]
def wsX8_trials_r2 : List Cond := [Cond.fieldLink RX6 40 "PressGuard$Script" "count" "I", Cond.fieldLink RX6 57 "PressGuard$Press" "mode" "I", Cond.fieldLink RX6 60 "PressGuard$Press" "lockedBy" "I", Cond.methodLink RX6 34 yX0_clear, Cond.instanceMethod yX0_clear, Cond.selects RX0 yX0_clear yX0_clear, Cond.initialized RX0, Cond.code yX0_clear cX0_clear 1 none, Cond.fieldLink RX0 9 "PressGuard$Faults" "stuckOff" "I", Cond.fieldLink RX0 15 "PressGuard$Faults" "stuckOn" "I", Cond.fieldLink RX0 18 "PressGuard$Faults" "firstValve" "I", Cond.fieldLink RX0 21 "PressGuard$Faults" "secondValve" "I", Cond.methodLink RX6 37 yX2_begin, Cond.instanceMethod yX2_begin, Cond.selects RX2 yX2_begin yX2_begin, Cond.initialized RX2, Cond.code yX2_begin cX2_begin 1 none, Cond.fieldLink RX2 9 "PressGuard$Press" "mode" "I", Cond.fieldLink RX2 15 "PressGuard$Press" "hands" "I", Cond.fieldLink RX2 18 "PressGuard$Press" "since" "I", Cond.fieldLink RX2 21 "PressGuard$Press" "muting" "I", Cond.fieldLink RX2 24 "PressGuard$Press" "mutedFor" "I", Cond.fieldLink RX2 27 "PressGuard$Press" "leftApart" "I", Cond.fieldLink RX2 30 "PressGuard$Press" "rightApart" "I"]
def wsX8_trials_r3 : List Cond := [Cond.fieldLink RX2 33 "PressGuard$Press" "curtainApart" "I", Cond.fieldLink RX2 36 "PressGuard$Press" "unlike" "I", Cond.fieldLink RX2 39 "PressGuard$Press" "command" "I", Cond.fieldLink RX2 42 "PressGuard$Press" "position" "I", Cond.fieldLink RX2 45 "PressGuard$Press" "brake" "I", Cond.fieldLink RX2 48 "PressGuard$Press" "resetSeen" "I", Cond.fieldLink RX2 51 "PressGuard$Press" "lockedBy" "I", Cond.fieldLink RX2 54 "PressGuard$Press" "dangers" "I", Cond.fieldLink RX2 57 "PressGuard$Press" "rounds" "I", Cond.methodLink RX6 45 yX0_setInput, Cond.instanceMethod yX0_setInput, Cond.selects RX0 yX0_setInput yX0_setInput, Cond.code yX0_setInput cX0_setInput 4 none, Cond.methodLink RX6 49 yX3_setAt, Cond.instanceMethod yX3_setAt, Cond.selects RX3 yX3_setAt yX3_setAt, Cond.initialized RX3, Cond.code yX3_setAt cX3_setAt 2 (some .int), Cond.fieldLink RX3 9 "PressGuard$Script" "sets" "[I", Cond.methodLink RX6 53 yX2_advance, Cond.instanceMethod yX2_advance, Cond.selects RX2 yX2_advance yX2_advance, Cond.code yX2_advance cX2_advance 6 none, Cond.fieldLink RX2 64 "PressGuard$Press" "faults" "LPressGuard$Faults;"]
def wsX8_trials_r4 : List Cond := [Cond.methodLink RX2 80 yX0_seenOf, Cond.instanceMethod yX0_seenOf, Cond.selects RX0 yX0_seenOf yX0_seenOf, Cond.code yX0_seenOf cX0_seenOf 2 (some .int), Cond.methodLink RX2 86 yX2_apartThen, Cond.static yX2_apartThen, Cond.code yX2_apartThen cX2_apartThen 3 (some .int), Cond.static yX8_pairCount, Cond.code yX8_pairCount cX8_pairCount 2 (some .int), Cond.methodLink RX8 211 yX8_bit, Cond.static yX8_bit, Cond.code yX8_bit cX8_bit 2 (some .int), Cond.methodLink RX2 101 yX2_oneMore, Cond.static yX2_oneMore, Cond.code yX2_oneMore cX2_oneMore 1 (some .int), Cond.methodLink RX2 122 Lib.Math.min.name, Cond.static Lib.Math.min.name, Cond.initialized "java/lang/Math", Cond.code Lib.Math.min.name Lib.Math.min.code 2 (some .int), Cond.methodLink RX2 90 yX2_moveMuting, Cond.instanceMethod yX2_moveMuting, Cond.selects RX2 yX2_moveMuting yX2_moveMuting, Cond.code yX2_moveMuting cX2_moveMuting 2 none, Cond.fieldLink RX2 60 "PressGuard$Press" "settings" "LPressGuard$Settings;"]
def wsX8_trials_r5 : List Cond := [Cond.fieldLink RX2 131 "PressGuard$Settings" "limit" "I", Cond.methodLink RX2 127 yX2_mutingThen, Cond.instanceMethod yX2_mutingThen, Cond.selects RX2 yX2_mutingThen yX2_mutingThen, Cond.code yX2_mutingThen cX2_mutingThen 3 (some .int), Cond.methodLink RX2 108 yX2_isMuted, Cond.instanceMethod yX2_isMuted, Cond.selects RX2 yX2_isMuted yX2_isMuted, Cond.code yX2_isMuted cX2_isMuted 1 (some .boolean), Cond.methodLink RX2 94 yX2_moveHands, Cond.instanceMethod yX2_moveHands, Cond.selects RX2 yX2_moveHands yX2_moveHands, Cond.code yX2_moveHands cX2_moveHands 4 none, Cond.methodLink RX2 136 yX2_handsThen, Cond.instanceMethod yX2_handsThen, Cond.selects RX2 yX2_handsThen yX2_handsThen, Cond.code yX2_handsThen cX2_handsThen 3 (some .int), Cond.fieldLink RX2 139 "PressGuard$Settings" "span" "I", Cond.methodLink RX2 97 yX0_valvesObey, Cond.instanceMethod yX0_valvesObey, Cond.selects RX0 yX0_valvesObey yX0_valvesObey, Cond.code yX0_valvesObey cX0_valvesObey 2 (some .boolean), Cond.methodLink RX0 28 yX0_valveIs, Cond.static yX0_valveIs]
def wsX8_trials_r6 : List Cond := [Cond.code yX0_valveIs cX0_valveIs 2 (some .int), Cond.methodLink RX2 112 yX2_changeMode, Cond.instanceMethod yX2_changeMode, Cond.selects RX2 yX2_changeMode yX2_changeMode, Cond.code yX2_changeMode cX2_changeMode 7 none, Cond.fieldLink RX2 149 "PressGuard$Settings" "bottom" "I", Cond.methodLink RX2 145 yX2_leastCause, Cond.instanceMethod yX2_leastCause, Cond.selects RX2 yX2_leastCause yX2_leastCause, Cond.code yX2_leastCause cX2_leastCause 1 (some .int), Cond.fieldLink RX2 142 "PressGuard$Settings" "patience" "I", Cond.methodLink RX2 116 yX2_moveSlide, Cond.instanceMethod yX2_moveSlide, Cond.selects RX2 yX2_moveSlide yX2_moveSlide, Cond.code yX2_moveSlide cX2_moveSlide 2 none, Cond.fieldLink RX2 155 "PressGuard$Settings" "overrun" "I", Cond.methodLink RX2 152 yX0_bothOpen, Cond.instanceMethod yX0_bothOpen, Cond.selects RX0 yX0_bothOpen yX0_bothOpen, Cond.code yX0_bothOpen cX0_bothOpen 2 (some .boolean), Cond.methodLink RX2 158 yX2_arriveAtTop, Cond.instanceMethod yX2_arriveAtTop, Cond.selects RX2 yX2_arriveAtTop yX2_arriveAtTop, Cond.code yX2_arriveAtTop cX2_arriveAtTop 1 none]
def wsX8_trials_r7 : List Cond := [Cond.methodLink RX8 206 yX7_begin, Cond.instanceMethod yX7_begin, Cond.selects RX7 yX7_begin yX7_begin, Cond.initialized RX7, Cond.code yX7_begin cX7_begin 2 none, Cond.fieldLink RX7 9 "PressGuard$TrialSums" "soundRounds" "I", Cond.fieldLink RX7 15 "PressGuard$TrialSums" "count" "I", Cond.fieldLink RX7 18 "PressGuard$TrialSums" "dangerous" "I", Cond.fieldLink RX7 21 "PressGuard$TrialSums" "everLocked" "I", Cond.fieldLink RX7 24 "PressGuard$TrialSums" "longestToLock" "I", Cond.fieldLink RX7 27 "PressGuard$TrialSums" "mostDangers" "I", Cond.fieldLink RX7 30 "PressGuard$TrialSums" "fewerRounds" "I", Cond.methodLink RX8 208 yX8_sumUpTrialsOf, Cond.instanceMethod yX8_sumUpTrialsOf, Cond.selects RX8 yX8_sumUpTrialsOf yX8_sumUpTrialsOf, Cond.code yX8_sumUpTrialsOf cX8_sumUpTrialsOf 4 none, Cond.methodLink RX8 155 yX3_setAt, Cond.methodLink RX8 214 yX7_add, Cond.instanceMethod yX7_add, Cond.selects RX7 yX7_add yX7_add, Cond.code yX7_add cX7_add 3 none, Cond.fieldLink RX7 33 "PressGuard$Trial" "press" "LPressGuard$Press;", Cond.fieldLink RX7 39 "PressGuard$Press" "dangers" "I", Cond.fieldLink RX7 44 "PressGuard$Trial" "firstLock" "I"]
def wsX8_trials_r8 : List Cond := [Cond.methodLink RX7 47 Lib.Math.max.name, Cond.static Lib.Math.max.name, Cond.code Lib.Math.max.name Lib.Math.max.code 2 (some .int), Cond.fieldLink RX7 53 "PressGuard$Press" "rounds" "I", Cond.methodLink RX8 166 yX7_part, Cond.instanceMethod yX7_part, Cond.selects RX7 yX7_part yX7_part, Cond.code yX7_part cX7_part 2 (some .int)]
def wsX8_trials : List Cond := .code yX8_trials cX8_trials 2 (some .int) :: ((wsX8_trials_r1 ++ (wsX8_trials_r2 ++ (wsX8_trials_r3 ++ (wsX8_trials_r4 ++ (wsX8_trials_r5 ++ (wsX8_trials_r6 ++ (wsX8_trials_r7 ++ wsX8_trials_r8))))))) ++ wsX80 ++ wsX30 ++ wsX60 ++ wsX20 ++ wsX00 ++ wsX50 ++ wsX70)
def wsX8_reach_r1 : List Cond := [Cond.fieldLink RX8 68 "PressGuard" "search" "LPressGuard$Search;", Cond.fieldLink RX8 28 "PressGuard" "press" "LPressGuard$Press;", Cond.methodLink RX8 105 yX8_isSet, Cond.static yX8_isSet, Cond.initialized RX8, Cond.code yX8_isSet cX8_isSet 1 (some .boolean), Cond.methodLink RX8 76 yX8_within, Cond.static yX8_within, Cond.code yX8_within cX8_within 3 (some .boolean), Cond.methodLink RX8 144 yJ6_bitCount_0f7a4, Cond.static yJ6_bitCount_0f7a4, Cond.initialized RJ6, Cond.code yJ6_bitCount_0f7a4 cJ6_bitCount_0f7a4 1 (some .int), Cond.constant RJ6 265 (1431655765), Cond.constant RJ6 266 (858993459), Cond.constant RJ6 267 (252645135), Cond.methodLink RX8 167 yX4_run, Cond.instanceMethod yX4_run, Cond.selects RX4 yX4_run yX4_run, Cond.initialized RX4, Cond.code yX4_run cX4_run 6 none, Cond.fieldLink RX4 17 "PressGuard$Search" "table" "[J", Cond.fieldLink RX4 21 "PressGuard$Search" "fewest" "[I", Cond.fieldLink RX4 32 "PressGuard$Search" "states" "I"]
def wsX8_reach_r2 : List Cond := [Cond.fieldLink RX4 35 "PressGuard$Search" "mostDangers" "I", Cond.fieldLink RX4 11 "PressGuard$Search" "path" "[LPressGuard$Press;", Cond.fieldLink RX4 58 "PressGuard$Press" "dangers" "I", Cond.methodLink RX4 41 yJ7_fill_d0a16, Cond.static yJ7_fill_d0a16, Cond.initialized RJ7, Cond.code yJ7_fill_d0a16 cJ7_fill_d0a16 5 none, Cond.methodLink RX4 47 yJ7_fill_53178, Cond.static yJ7_fill_53178, Cond.code yJ7_fill_53178 cJ7_fill_53178 4 none, Cond.methodLink RX4 50 yX4_chooseSets, Cond.instanceMethod yX4_chooseSets, Cond.selects RX4 yX4_chooseSets yX4_chooseSets, Cond.code yX4_chooseSets cX4_chooseSets 6 none, Cond.fieldLink RX4 25 "PressGuard$Search" "choices" "[I", Cond.methodLink RX4 75 Lib.Math.min.name, Cond.static Lib.Math.min.name, Cond.initialized "java/lang/Math", Cond.code Lib.Math.min.name Lib.Math.min.code 2 (some .int), Cond.fieldLink RX4 28 "PressGuard$Search" "choiceCount" "I", Cond.methodLink RX4 69 yJ6_bitCount_0f7a4, Cond.methodLink RX4 54 yX2_copyFrom, Cond.instanceMethod yX2_copyFrom, Cond.selects RX2 yX2_copyFrom yX2_copyFrom]
def wsX8_reach_r3 : List Cond := [Cond.initialized RX2, Cond.code yX2_copyFrom cX2_copyFrom 2 none, Cond.fieldLink RX2 9 "PressGuard$Press" "mode" "I", Cond.fieldLink RX2 15 "PressGuard$Press" "hands" "I", Cond.fieldLink RX2 18 "PressGuard$Press" "since" "I", Cond.fieldLink RX2 21 "PressGuard$Press" "muting" "I", Cond.fieldLink RX2 24 "PressGuard$Press" "mutedFor" "I", Cond.fieldLink RX2 27 "PressGuard$Press" "leftApart" "I", Cond.fieldLink RX2 30 "PressGuard$Press" "rightApart" "I", Cond.fieldLink RX2 33 "PressGuard$Press" "curtainApart" "I", Cond.fieldLink RX2 36 "PressGuard$Press" "unlike" "I", Cond.fieldLink RX2 39 "PressGuard$Press" "command" "I", Cond.fieldLink RX2 42 "PressGuard$Press" "position" "I", Cond.fieldLink RX2 45 "PressGuard$Press" "brake" "I", Cond.fieldLink RX2 48 "PressGuard$Press" "resetSeen" "I", Cond.fieldLink RX2 51 "PressGuard$Press" "lockedBy" "I", Cond.fieldLink RX2 54 "PressGuard$Press" "dangers" "I", Cond.fieldLink RX2 57 "PressGuard$Press" "rounds" "I", Cond.methodLink RX4 61 yX4_goOn, Cond.static yX4_goOn, Cond.code yX4_goOn cX4_goOn 6 none, Cond.methodLink RX4 81 yX4_meet, Cond.instanceMethod yX4_meet, Cond.selects RX4 yX4_meet yX4_meet]
def wsX8_reach_r4 : List Cond := [Cond.code yX4_meet cX4_meet 4 none, Cond.methodLink RX4 97 Lib.Math.max.name, Cond.static Lib.Math.max.name, Cond.code Lib.Math.max.name Lib.Math.max.code 2 (some .int), Cond.fieldLink RX4 100 "PressGuard$Press" "mode" "I", Cond.methodLink RX4 89 yX2_stateNumber, Cond.instanceMethod yX2_stateNumber, Cond.selects RX2 yX2_stateNumber yX2_stateNumber, Cond.code yX2_stateNumber cX2_stateNumber 3 (some .long), Cond.constantLong RX2 68 (5), Cond.constantLong RX2 70 (4), Cond.constantLong RX2 72 (10), Cond.constantLong RX2 74 (31), Cond.constantLong RX2 76 (2), Cond.constantLong RX2 78 (18), Cond.methodLink RX4 93 yX4_addState, Cond.instanceMethod yX4_addState, Cond.selects RX4 yX4_addState yX4_addState, Cond.code yX4_addState cX4_addState 6 none, Cond.constantLong RX4 103 (-7046029254386353131), Cond.methodLink RX4 85 yX2_advance, Cond.instanceMethod yX2_advance, Cond.selects RX2 yX2_advance yX2_advance, Cond.code yX2_advance cX2_advance 6 none]
def wsX8_reach_r5 : List Cond := [Cond.fieldLink RX2 64 "PressGuard$Press" "faults" "LPressGuard$Faults;", Cond.methodLink RX2 80 yX0_seenOf, Cond.instanceMethod yX0_seenOf, Cond.selects RX0 yX0_seenOf yX0_seenOf, Cond.initialized RX0, Cond.code yX0_seenOf cX0_seenOf 2 (some .int), Cond.fieldLink RX0 15 "PressGuard$Faults" "stuckOn" "I", Cond.fieldLink RX0 9 "PressGuard$Faults" "stuckOff" "I", Cond.methodLink RX2 86 yX2_apartThen, Cond.static yX2_apartThen, Cond.code yX2_apartThen cX2_apartThen 3 (some .int), Cond.static yX8_pairCount, Cond.code yX8_pairCount cX8_pairCount 2 (some .int), Cond.methodLink RX8 211 yX8_bit, Cond.static yX8_bit, Cond.code yX8_bit cX8_bit 2 (some .int), Cond.methodLink RX2 101 yX2_oneMore, Cond.static yX2_oneMore, Cond.code yX2_oneMore cX2_oneMore 1 (some .int), Cond.methodLink RX2 122 Lib.Math.min.name, Cond.methodLink RX2 90 yX2_moveMuting, Cond.instanceMethod yX2_moveMuting, Cond.selects RX2 yX2_moveMuting yX2_moveMuting, Cond.code yX2_moveMuting cX2_moveMuting 2 none]
def wsX8_reach_r6 : List Cond := [Cond.fieldLink RX2 60 "PressGuard$Press" "settings" "LPressGuard$Settings;", Cond.fieldLink RX2 131 "PressGuard$Settings" "limit" "I", Cond.methodLink RX2 127 yX2_mutingThen, Cond.instanceMethod yX2_mutingThen, Cond.selects RX2 yX2_mutingThen yX2_mutingThen, Cond.code yX2_mutingThen cX2_mutingThen 3 (some .int), Cond.methodLink RX2 108 yX2_isMuted, Cond.instanceMethod yX2_isMuted, Cond.selects RX2 yX2_isMuted yX2_isMuted, Cond.code yX2_isMuted cX2_isMuted 1 (some .boolean), Cond.methodLink RX2 94 yX2_moveHands, Cond.instanceMethod yX2_moveHands, Cond.selects RX2 yX2_moveHands yX2_moveHands, Cond.code yX2_moveHands cX2_moveHands 4 none, Cond.methodLink RX2 136 yX2_handsThen, Cond.instanceMethod yX2_handsThen, Cond.selects RX2 yX2_handsThen yX2_handsThen, Cond.code yX2_handsThen cX2_handsThen 3 (some .int), Cond.fieldLink RX2 139 "PressGuard$Settings" "span" "I", Cond.methodLink RX2 97 yX0_valvesObey, Cond.instanceMethod yX0_valvesObey, Cond.selects RX0 yX0_valvesObey yX0_valvesObey, Cond.code yX0_valvesObey cX0_valvesObey 2 (some .boolean), Cond.fieldLink RX0 18 "PressGuard$Faults" "firstValve" "I"]
def wsX8_reach_r7 : List Cond := [Cond.fieldLink RX0 21 "PressGuard$Faults" "secondValve" "I", Cond.methodLink RX0 28 yX0_valveIs, Cond.static yX0_valveIs, Cond.code yX0_valveIs cX0_valveIs 2 (some .int), Cond.methodLink RX2 112 yX2_changeMode, Cond.instanceMethod yX2_changeMode, Cond.selects RX2 yX2_changeMode yX2_changeMode, Cond.code yX2_changeMode cX2_changeMode 7 none, Cond.fieldLink RX2 149 "PressGuard$Settings" "bottom" "I", Cond.methodLink RX2 145 yX2_leastCause, Cond.instanceMethod yX2_leastCause, Cond.selects RX2 yX2_leastCause yX2_leastCause, Cond.code yX2_leastCause cX2_leastCause 1 (some .int), Cond.fieldLink RX2 142 "PressGuard$Settings" "patience" "I", Cond.methodLink RX2 116 yX2_moveSlide, Cond.instanceMethod yX2_moveSlide, Cond.selects RX2 yX2_moveSlide yX2_moveSlide, Cond.code yX2_moveSlide cX2_moveSlide 2 none, Cond.fieldLink RX2 155 "PressGuard$Settings" "overrun" "I", Cond.methodLink RX2 152 yX0_bothOpen, Cond.instanceMethod yX0_bothOpen, Cond.selects RX0 yX0_bothOpen yX0_bothOpen, Cond.code yX0_bothOpen cX0_bothOpen 2 (some .boolean), Cond.methodLink RX2 158 yX2_arriveAtTop]
def wsX8_reach_r8 : List Cond := [Cond.instanceMethod yX2_arriveAtTop, Cond.selects RX2 yX2_arriveAtTop yX2_arriveAtTop, Cond.code yX2_arriveAtTop cX2_arriveAtTop 1 none, Cond.methodLink RX8 170 yX4_part, Cond.instanceMethod yX4_part, Cond.selects RX4 yX4_part yX4_part, Cond.code yX4_part cX4_part 2 (some .int)]
def wsX8_reach : List Cond := .code yX8_reach cX8_reach 5 (some .int) :: ((wsX8_reach_r1 ++ (wsX8_reach_r2 ++ (wsX8_reach_r3 ++ (wsX8_reach_r4 ++ (wsX8_reach_r5 ++ (wsX8_reach_r6 ++ (wsX8_reach_r7 ++ wsX8_reach_r8))))))) ++ wsX80 ++ wsX40 ++ wsX20 ++ wsX00 ++ wsX50)
def wsX8_many_r1 : List Cond := [Cond.fieldLink RX8 38 "PressGuard" "notes" "LPressGuard$Notes;", Cond.fieldLink RX8 171 "PressGuard$Notes" "tickCount" "I", Cond.fieldLink RX8 28 "PressGuard" "press" "LPressGuard$Press;", Cond.fieldLink RX8 174 "PressGuard$Press" "dangers" "I", Cond.fieldLink RX8 177 "PressGuard$Press" "rounds" "I", Cond.fieldLink RX8 45 "PressGuard" "script" "LPressGuard$Script;", Cond.fieldLink RX8 149 "PressGuard$Script" "count" "I", Cond.fieldLink RX8 19 "PressGuard" "faults" "LPressGuard$Faults;", Cond.fieldLink RX8 180 "PressGuard$Faults" "stuckOff" "I", Cond.fieldLink RX8 183 "PressGuard$Faults" "stuckOn" "I", Cond.fieldLink RX8 190 "PressGuard$Notes" "lockCount" "I", Cond.methodLink RX8 144 yJ6_bitCount_0f7a4, Cond.static yJ6_bitCount_0f7a4, Cond.initialized RJ6, Cond.code yJ6_bitCount_0f7a4 cJ6_bitCount_0f7a4 1 (some .int), Cond.constant RJ6 265 (1431655765), Cond.constant RJ6 266 (858993459), Cond.constant RJ6 267 (252645135), Cond.methodLink RX8 186 yX0_valvesStuck, Cond.instanceMethod yX0_valvesStuck, Cond.selects RX0 yX0_valvesStuck yX0_valvesStuck, Cond.initialized RX0, Cond.code yX0_valvesStuck cX0_valvesStuck 1 (some .int), Cond.fieldLink RX0 18 "PressGuard$Faults" "firstValve" "I"]
def wsX8_many_r2 : List Cond := [Cond.fieldLink RX0 21 "PressGuard$Faults" "secondValve" "I"]
def wsX8_many : List Cond := .code yX8_many cX8_many 2 (some .int) :: ((wsX8_many_r1 ++ wsX8_many_r2) ++ wsX80 ++ wsX10 ++ wsX20 ++ wsX30 ++ wsX00)
def wsX9_init : List Cond := .code yX9_init cX9_init 2 none :: ([.methodLink RX9 1 objectInit, .instanceMethod objectInit, .code objectInit ⟨#[0xb1]⟩ 1 none, .fieldLink RX9 7 "PressGuardModel" "patience" "I", .fieldLink RX9 13 "PressGuardModel" "span" "I", .fieldLink RX9 16 "PressGuardModel" "limit" "I", .fieldLink RX9 19 "PressGuardModel" "overrun" "I", .fieldLink RX9 22 "PressGuardModel" "bottom" "I", .arrayClass .int, .fieldLink RX9 25 "PressGuardModel" "stuck" "[I", .fieldLink RX9 29 "PressGuardModel" "valves" "[I", .fieldLink RX9 32 "PressGuardModel" "mode" "I", .fieldLink RX9 35 "PressGuardModel" "apart" "[I", .fieldLink RX9 38 "PressGuardModel" "lockedBy" "I", .fieldLink RX9 41 "PressGuardModel" "lockedAt" "[I", .fieldLink RX9 44 "PressGuardModel" "firstCauses" "[I", .fieldLink RX9 47 "PressGuardModel" "behind" "[I", .fieldLink RX9 50 "PressGuardModel" "script" "[I", .fieldLink RX9 53 "PressGuardModel" "results" "[I", .fieldLink RX9 56 "PressGuardModel" "keptStuck" "[I", .arrayClass .long, .fieldLink RX9 59 "PressGuardModel" "stateAt" "[J", .fieldLink RX9 63 "PressGuardModel" "depthAt" "[I"] ++ wsX90)
def wsX9_within : List Cond := .code yX9_within cX9_within 3 (some .boolean) :: ([])
def wsX9_isSet : List Cond := .code yX9_isSet cX9_isSet 1 (some .boolean) :: ([.methodLink RX9 66 yX9_within, .static yX9_within, .initialized RX9, .code yX9_within cX9_within 3 (some .boolean)])
def wsX9_bit : List Cond := .code yX9_bit cX9_bit 2 (some .int) :: ([])
def wsX9_seen : List Cond := .code yX9_seen cX9_seen 4 (some .int) :: ([.fieldLink RX9 25 "PressGuardModel" "stuck" "[I", .methodLink RX9 70 yX9_bit, .static yX9_bit, .initialized RX9, .code yX9_bit cX9_bit 2 (some .int)] ++ wsX90)
def wsX9_isOn : List Cond := .code yX9_isOn cX9_isOn 2 (some .boolean) :: ([])
def wsX9_mutingBy : List Cond := .code yX9_mutingBy cX9_mutingBy 3 (some .int) :: ([])
def wsX9_handsBy : List Cond := .code yX9_handsBy cX9_handsBy 2 (some .int) :: ([.fieldLink RX9 74 "PressGuardModel" "hands" "I", .fieldLink RX9 77 "PressGuardModel" "since" "I", .fieldLink RX9 13 "PressGuardModel" "span" "I"] ++ wsX90)
def wsX9_valveAt : List Cond := .code yX9_valveAt cX9_valveAt 2 (some .int) :: ([.fieldLink RX9 29 "PressGuardModel" "valves" "[I", .fieldLink RX9 80 "PressGuardModel" "command" "I"] ++ wsX90)
def wsX9_more : List Cond := .code yX9_more cX9_more 1 (some .int) :: ([])
def wsX9_leastCause : List Cond := .code yX9_leastCause cX9_leastCause 3 (some .int) :: ([.fieldLink RX9 35 "PressGuardModel" "apart" "[I", .fieldLink RX9 7 "PressGuardModel" "patience" "I", .fieldLink RX9 83 "PressGuardModel" "unlike" "I", .fieldLink RX9 86 "PressGuardModel" "muting" "I"] ++ wsX90)
def wsX9_goesOn : List Cond := .code yX9_goesOn cX9_goesOn 5 none :: ([.fieldLink RX9 32 "PressGuardModel" "mode" "I", .fieldLink RX9 127 "PressGuardModel" "newCause" "I", .fieldLink RX9 38 "PressGuardModel" "lockedBy" "I", .fieldLink RX9 130 "PressGuardModel" "position" "I", .fieldLink RX9 133 "PressGuardModel" "newPlace" "I", .fieldLink RX9 74 "PressGuardModel" "hands" "I", .fieldLink RX9 22 "PressGuardModel" "bottom" "I", .methodLink RX9 124 yX9_leastCause, .instanceMethod yX9_leastCause, .selects RX9 yX9_leastCause yX9_leastCause, .initialized RX9, .code yX9_leastCause cX9_leastCause 3 (some .int), .fieldLink RX9 35 "PressGuardModel" "apart" "[I", .fieldLink RX9 7 "PressGuardModel" "patience" "I", .fieldLink RX9 83 "PressGuardModel" "unlike" "I", .fieldLink RX9 86 "PressGuardModel" "muting" "I"] ++ wsX90)
def wsX9_slides : List Cond := .code yX9_slides cX9_slides 3 none :: ([.fieldLink RX9 136 "PressGuardModel" "danger" "I", .fieldLink RX9 139 "PressGuardModel" "round" "I", .fieldLink RX9 19 "PressGuardModel" "overrun" "I", .fieldLink RX9 142 "PressGuardModel" "brake" "I", .fieldLink RX9 130 "PressGuardModel" "position" "I", .fieldLink RX9 22 "PressGuardModel" "bottom" "I", .fieldLink RX9 32 "PressGuardModel" "mode" "I", .methodLink RX9 110 yX9_valveAt, .instanceMethod yX9_valveAt, .selects RX9 yX9_valveAt yX9_valveAt, .initialized RX9, .code yX9_valveAt cX9_valveAt 2 (some .int), .fieldLink RX9 29 "PressGuardModel" "valves" "[I", .fieldLink RX9 80 "PressGuardModel" "command" "I"] ++ wsX90)
def wsX9_tickBy_r1 : List Cond := [Cond.fieldLink RX9 35 "PressGuardModel" "apart" "[I", Cond.fieldLink RX9 86 "PressGuardModel" "muting" "I", Cond.fieldLink RX9 100 "PressGuardModel" "mutedFor" "I", Cond.fieldLink RX9 16 "PressGuardModel" "limit" "I", Cond.fieldLink RX9 74 "PressGuardModel" "hands" "I", Cond.fieldLink RX9 77 "PressGuardModel" "since" "I", Cond.fieldLink RX9 80 "PressGuardModel" "command" "I", Cond.fieldLink RX9 83 "PressGuardModel" "unlike" "I", Cond.fieldLink RX9 113 "PressGuardModel" "wasReset" "I", Cond.fieldLink RX9 32 "PressGuardModel" "mode" "I", Cond.methodLink RX9 89 yX9_seen, Cond.instanceMethod yX9_seen, Cond.selects RX9 yX9_seen yX9_seen, Cond.initialized RX9, Cond.code yX9_seen cX9_seen 4 (some .int), Cond.fieldLink RX9 25 "PressGuardModel" "stuck" "[I", Cond.methodLink RX9 70 yX9_bit, Cond.static yX9_bit, Cond.code yX9_bit cX9_bit 2 (some .int), Cond.methodLink RX9 93 yX9_more, Cond.static yX9_more, Cond.code yX9_more cX9_more 1 (some .int), Cond.methodLink RX9 96 yX9_mutingBy, Cond.static yX9_mutingBy]
def wsX9_tickBy_r2 : List Cond := [Cond.code yX9_mutingBy cX9_mutingBy 3 (some .int), Cond.methodLink RX9 103 yX9_isOn, Cond.static yX9_isOn, Cond.code yX9_isOn cX9_isOn 2 (some .boolean), Cond.methodLink RX9 107 yX9_handsBy, Cond.instanceMethod yX9_handsBy, Cond.selects RX9 yX9_handsBy yX9_handsBy, Cond.code yX9_handsBy cX9_handsBy 2 (some .int), Cond.fieldLink RX9 13 "PressGuardModel" "span" "I", Cond.methodLink RX9 110 yX9_valveAt, Cond.instanceMethod yX9_valveAt, Cond.selects RX9 yX9_valveAt yX9_valveAt, Cond.code yX9_valveAt cX9_valveAt 2 (some .int), Cond.fieldLink RX9 29 "PressGuardModel" "valves" "[I", Cond.methodLink RX9 116 yX9_goesOn, Cond.instanceMethod yX9_goesOn, Cond.selects RX9 yX9_goesOn yX9_goesOn, Cond.code yX9_goesOn cX9_goesOn 5 none, Cond.fieldLink RX9 127 "PressGuardModel" "newCause" "I", Cond.fieldLink RX9 38 "PressGuardModel" "lockedBy" "I", Cond.fieldLink RX9 130 "PressGuardModel" "position" "I", Cond.fieldLink RX9 133 "PressGuardModel" "newPlace" "I", Cond.fieldLink RX9 22 "PressGuardModel" "bottom" "I", Cond.methodLink RX9 124 yX9_leastCause]
def wsX9_tickBy_r3 : List Cond := [Cond.instanceMethod yX9_leastCause, Cond.selects RX9 yX9_leastCause yX9_leastCause, Cond.code yX9_leastCause cX9_leastCause 3 (some .int), Cond.fieldLink RX9 7 "PressGuardModel" "patience" "I", Cond.methodLink RX9 120 yX9_slides, Cond.instanceMethod yX9_slides, Cond.selects RX9 yX9_slides yX9_slides, Cond.code yX9_slides cX9_slides 3 none, Cond.fieldLink RX9 136 "PressGuardModel" "danger" "I", Cond.fieldLink RX9 139 "PressGuardModel" "round" "I", Cond.fieldLink RX9 19 "PressGuardModel" "overrun" "I", Cond.fieldLink RX9 142 "PressGuardModel" "brake" "I"]
def wsX9_tickBy : List Cond := .code yX9_tickBy cX9_tickBy 7 none :: ((wsX9_tickBy_r1 ++ (wsX9_tickBy_r2 ++ wsX9_tickBy_r3)) ++ wsX90)
def wsX9_stateOf : List Cond := .code yX9_stateOf cX9_stateOf 4 (some .long) :: ([.fieldLink RX9 32 "PressGuardModel" "mode" "I", .constantLong RX9 145 (4), .fieldLink RX9 74 "PressGuardModel" "hands" "I", .constantLong RX9 147 (16), .fieldLink RX9 77 "PressGuardModel" "since" "I", .constantLong RX9 149 (8), .fieldLink RX9 86 "PressGuardModel" "muting" "I", .constantLong RX9 151 (32), .fieldLink RX9 100 "PressGuardModel" "mutedFor" "I", .fieldLink RX9 35 "PressGuardModel" "apart" "[I", .fieldLink RX9 83 "PressGuardModel" "unlike" "I", .constantLong RX9 153 (2), .fieldLink RX9 80 "PressGuardModel" "command" "I", .fieldLink RX9 130 "PressGuardModel" "position" "I", .fieldLink RX9 142 "PressGuardModel" "brake" "I", .fieldLink RX9 113 "PressGuardModel" "wasReset" "I"] ++ wsX90)
def wsX9_takes : List Cond := .code yX9_takes cX9_takes 4 (some .int) :: ([.fieldLink RX9 155 "PressGuardModel" "left" "J"] ++ wsX90)
def wsX9_becomes : List Cond := .code yX9_becomes cX9_becomes 5 none :: ([.fieldLink RX9 155 "PressGuardModel" "left" "J", .constantLong RX9 153 (2), .fieldLink RX9 113 "PressGuardModel" "wasReset" "I", .constantLong RX9 145 (4), .fieldLink RX9 142 "PressGuardModel" "brake" "I", .constantLong RX9 151 (32), .fieldLink RX9 130 "PressGuardModel" "position" "I", .fieldLink RX9 80 "PressGuardModel" "command" "I", .constantLong RX9 147 (16), .fieldLink RX9 83 "PressGuardModel" "unlike" "I", .fieldLink RX9 35 "PressGuardModel" "apart" "[I", .fieldLink RX9 100 "PressGuardModel" "mutedFor" "I", .constantLong RX9 149 (8), .fieldLink RX9 86 "PressGuardModel" "muting" "I", .fieldLink RX9 77 "PressGuardModel" "since" "I", .fieldLink RX9 74 "PressGuardModel" "hands" "I", .fieldLink RX9 32 "PressGuardModel" "mode" "I", .fieldLink RX9 38 "PressGuardModel" "lockedBy" "I", .methodLink RX9 159 yX9_takes, .instanceMethod yX9_takes, .selects RX9 yX9_takes yX9_takes, .initialized RX9, .code yX9_takes cX9_takes 4 (some .int)] ++ wsX90)
def wsX9_begins_r1 : List Cond := [Cond.fieldLink RX9 32 "PressGuardModel" "mode" "I", Cond.methodLink RX9 163 yX9_becomes, Cond.instanceMethod yX9_becomes, Cond.selects RX9 yX9_becomes yX9_becomes, Cond.initialized RX9, Cond.code yX9_becomes cX9_becomes 5 none, Cond.fieldLink RX9 155 "PressGuardModel" "left" "J", Cond.constantLong RX9 153 (2), Cond.fieldLink RX9 113 "PressGuardModel" "wasReset" "I", Cond.constantLong RX9 145 (4), Cond.fieldLink RX9 142 "PressGuardModel" "brake" "I", Cond.constantLong RX9 151 (32), Cond.fieldLink RX9 130 "PressGuardModel" "position" "I", Cond.fieldLink RX9 80 "PressGuardModel" "command" "I", Cond.constantLong RX9 147 (16), Cond.fieldLink RX9 83 "PressGuardModel" "unlike" "I", Cond.fieldLink RX9 35 "PressGuardModel" "apart" "[I", Cond.fieldLink RX9 100 "PressGuardModel" "mutedFor" "I", Cond.constantLong RX9 149 (8), Cond.fieldLink RX9 86 "PressGuardModel" "muting" "I", Cond.fieldLink RX9 77 "PressGuardModel" "since" "I", Cond.fieldLink RX9 74 "PressGuardModel" "hands" "I", Cond.fieldLink RX9 38 "PressGuardModel" "lockedBy" "I", Cond.methodLink RX9 159 yX9_takes]
def wsX9_begins_r2 : List Cond := [Cond.instanceMethod yX9_takes, Cond.selects RX9 yX9_takes yX9_takes, Cond.code yX9_takes cX9_takes 4 (some .int)]
def wsX9_begins : List Cond := .code yX9_begins cX9_begins 1 none :: ((wsX9_begins_r1 ++ wsX9_begins_r2) ++ wsX90)
def wsX9_anew_r1 : List Cond := [Cond.fieldLink RX9 7 "PressGuardModel" "patience" "I", Cond.fieldLink RX9 13 "PressGuardModel" "span" "I", Cond.fieldLink RX9 16 "PressGuardModel" "limit" "I", Cond.fieldLink RX9 19 "PressGuardModel" "overrun" "I", Cond.fieldLink RX9 22 "PressGuardModel" "bottom" "I", Cond.fieldLink RX9 25 "PressGuardModel" "stuck" "[I", Cond.fieldLink RX9 29 "PressGuardModel" "valves" "[I", Cond.fieldLink RX9 170 "PressGuardModel" "ticks" "I", Cond.fieldLink RX9 173 "PressGuardModel" "dangers" "I", Cond.fieldLink RX9 176 "PressGuardModel" "rounds" "I", Cond.fieldLink RX9 179 "PressGuardModel" "locks" "I", Cond.fieldLink RX9 182 "PressGuardModel" "manyCauses" "I", Cond.fieldLink RX9 41 "PressGuardModel" "lockedAt" "[I", Cond.fieldLink RX9 47 "PressGuardModel" "behind" "[I", Cond.methodLink RX9 66 yX9_within, Cond.static yX9_within, Cond.initialized RX9, Cond.code yX9_within cX9_within 3 (some .boolean), Cond.methodLink RX9 167 yX9_begins, Cond.instanceMethod yX9_begins, Cond.selects RX9 yX9_begins yX9_begins, Cond.code yX9_begins cX9_begins 1 none, Cond.fieldLink RX9 32 "PressGuardModel" "mode" "I", Cond.methodLink RX9 163 yX9_becomes]
def wsX9_anew_r2 : List Cond := [Cond.instanceMethod yX9_becomes, Cond.selects RX9 yX9_becomes yX9_becomes, Cond.code yX9_becomes cX9_becomes 5 none, Cond.fieldLink RX9 155 "PressGuardModel" "left" "J", Cond.constantLong RX9 153 (2), Cond.fieldLink RX9 113 "PressGuardModel" "wasReset" "I", Cond.constantLong RX9 145 (4), Cond.fieldLink RX9 142 "PressGuardModel" "brake" "I", Cond.constantLong RX9 151 (32), Cond.fieldLink RX9 130 "PressGuardModel" "position" "I", Cond.fieldLink RX9 80 "PressGuardModel" "command" "I", Cond.constantLong RX9 147 (16), Cond.fieldLink RX9 83 "PressGuardModel" "unlike" "I", Cond.fieldLink RX9 35 "PressGuardModel" "apart" "[I", Cond.fieldLink RX9 100 "PressGuardModel" "mutedFor" "I", Cond.constantLong RX9 149 (8), Cond.fieldLink RX9 86 "PressGuardModel" "muting" "I", Cond.fieldLink RX9 77 "PressGuardModel" "since" "I", Cond.fieldLink RX9 74 "PressGuardModel" "hands" "I", Cond.fieldLink RX9 38 "PressGuardModel" "lockedBy" "I", Cond.methodLink RX9 159 yX9_takes, Cond.instanceMethod yX9_takes, Cond.selects RX9 yX9_takes yX9_takes, Cond.code yX9_takes cX9_takes 4 (some .int)]
def wsX9_anew : List Cond := .code yX9_anew cX9_anew 7 (some .int) :: ((wsX9_anew_r1 ++ wsX9_anew_r2) ++ wsX90)
def wsX9_stick : List Cond := .code yX9_stick cX9_stick 4 (some .int) :: ([.fieldLink RX9 25 "PressGuardModel" "stuck" "[I", .methodLink RX9 66 yX9_within, .static yX9_within, .initialized RX9, .code yX9_within cX9_within 3 (some .boolean)] ++ wsX90)
def wsX9_valve : List Cond := .code yX9_valve cX9_valve 4 (some .int) :: ([.fieldLink RX9 29 "PressGuardModel" "valves" "[I", .methodLink RX9 66 yX9_within, .static yX9_within, .initialized RX9, .code yX9_within cX9_within 3 (some .boolean)] ++ wsX90)
def wsX9_notes : List Cond := .code yX9_notes cX9_notes 4 none :: ([.fieldLink RX9 170 "PressGuardModel" "ticks" "I", .fieldLink RX9 173 "PressGuardModel" "dangers" "I", .fieldLink RX9 136 "PressGuardModel" "danger" "I", .fieldLink RX9 176 "PressGuardModel" "rounds" "I", .fieldLink RX9 139 "PressGuardModel" "round" "I", .fieldLink RX9 47 "PressGuardModel" "behind" "[I", .fieldLink RX9 32 "PressGuardModel" "mode" "I", .fieldLink RX9 127 "PressGuardModel" "newCause" "I", .fieldLink RX9 179 "PressGuardModel" "locks" "I", .fieldLink RX9 41 "PressGuardModel" "lockedAt" "[I", .fieldLink RX9 133 "PressGuardModel" "newPlace" "I", .fieldLink RX9 182 "PressGuardModel" "manyCauses" "I", .fieldLink RX9 44 "PressGuardModel" "firstCauses" "[I"] ++ wsX90)
def wsX9_ticks_r1 : List Cond := [Cond.fieldLink RX9 32 "PressGuardModel" "mode" "I", Cond.methodLink RX9 187 yX9_isSet, Cond.static yX9_isSet, Cond.initialized RX9, Cond.code yX9_isSet cX9_isSet 1 (some .boolean), Cond.methodLink RX9 66 yX9_within, Cond.static yX9_within, Cond.code yX9_within cX9_within 3 (some .boolean), Cond.methodLink RX9 191 yX9_tickBy, Cond.instanceMethod yX9_tickBy, Cond.selects RX9 yX9_tickBy yX9_tickBy, Cond.code yX9_tickBy cX9_tickBy 7 none, Cond.fieldLink RX9 35 "PressGuardModel" "apart" "[I", Cond.fieldLink RX9 86 "PressGuardModel" "muting" "I", Cond.fieldLink RX9 100 "PressGuardModel" "mutedFor" "I", Cond.fieldLink RX9 16 "PressGuardModel" "limit" "I", Cond.fieldLink RX9 74 "PressGuardModel" "hands" "I", Cond.fieldLink RX9 77 "PressGuardModel" "since" "I", Cond.fieldLink RX9 80 "PressGuardModel" "command" "I", Cond.fieldLink RX9 83 "PressGuardModel" "unlike" "I", Cond.fieldLink RX9 113 "PressGuardModel" "wasReset" "I", Cond.methodLink RX9 89 yX9_seen, Cond.instanceMethod yX9_seen, Cond.selects RX9 yX9_seen yX9_seen]
def wsX9_ticks_r2 : List Cond := [Cond.code yX9_seen cX9_seen 4 (some .int), Cond.fieldLink RX9 25 "PressGuardModel" "stuck" "[I", Cond.methodLink RX9 70 yX9_bit, Cond.static yX9_bit, Cond.code yX9_bit cX9_bit 2 (some .int), Cond.methodLink RX9 93 yX9_more, Cond.static yX9_more, Cond.code yX9_more cX9_more 1 (some .int), Cond.methodLink RX9 96 yX9_mutingBy, Cond.static yX9_mutingBy, Cond.code yX9_mutingBy cX9_mutingBy 3 (some .int), Cond.methodLink RX9 103 yX9_isOn, Cond.static yX9_isOn, Cond.code yX9_isOn cX9_isOn 2 (some .boolean), Cond.methodLink RX9 107 yX9_handsBy, Cond.instanceMethod yX9_handsBy, Cond.selects RX9 yX9_handsBy yX9_handsBy, Cond.code yX9_handsBy cX9_handsBy 2 (some .int), Cond.fieldLink RX9 13 "PressGuardModel" "span" "I", Cond.methodLink RX9 110 yX9_valveAt, Cond.instanceMethod yX9_valveAt, Cond.selects RX9 yX9_valveAt yX9_valveAt, Cond.code yX9_valveAt cX9_valveAt 2 (some .int), Cond.fieldLink RX9 29 "PressGuardModel" "valves" "[I"]
def wsX9_ticks_r3 : List Cond := [Cond.methodLink RX9 116 yX9_goesOn, Cond.instanceMethod yX9_goesOn, Cond.selects RX9 yX9_goesOn yX9_goesOn, Cond.code yX9_goesOn cX9_goesOn 5 none, Cond.fieldLink RX9 127 "PressGuardModel" "newCause" "I", Cond.fieldLink RX9 38 "PressGuardModel" "lockedBy" "I", Cond.fieldLink RX9 130 "PressGuardModel" "position" "I", Cond.fieldLink RX9 133 "PressGuardModel" "newPlace" "I", Cond.fieldLink RX9 22 "PressGuardModel" "bottom" "I", Cond.methodLink RX9 124 yX9_leastCause, Cond.instanceMethod yX9_leastCause, Cond.selects RX9 yX9_leastCause yX9_leastCause, Cond.code yX9_leastCause cX9_leastCause 3 (some .int), Cond.fieldLink RX9 7 "PressGuardModel" "patience" "I", Cond.methodLink RX9 120 yX9_slides, Cond.instanceMethod yX9_slides, Cond.selects RX9 yX9_slides yX9_slides, Cond.code yX9_slides cX9_slides 3 none, Cond.fieldLink RX9 136 "PressGuardModel" "danger" "I", Cond.fieldLink RX9 139 "PressGuardModel" "round" "I", Cond.fieldLink RX9 19 "PressGuardModel" "overrun" "I", Cond.fieldLink RX9 142 "PressGuardModel" "brake" "I", Cond.methodLink RX9 195 yX9_notes, Cond.instanceMethod yX9_notes]
def wsX9_ticks_r4 : List Cond := [Cond.selects RX9 yX9_notes yX9_notes, Cond.code yX9_notes cX9_notes 4 none, Cond.fieldLink RX9 170 "PressGuardModel" "ticks" "I", Cond.fieldLink RX9 173 "PressGuardModel" "dangers" "I", Cond.fieldLink RX9 176 "PressGuardModel" "rounds" "I", Cond.fieldLink RX9 47 "PressGuardModel" "behind" "[I", Cond.fieldLink RX9 179 "PressGuardModel" "locks" "I", Cond.fieldLink RX9 41 "PressGuardModel" "lockedAt" "[I", Cond.fieldLink RX9 182 "PressGuardModel" "manyCauses" "I", Cond.fieldLink RX9 44 "PressGuardModel" "firstCauses" "[I"]
def wsX9_ticks : List Cond := .code yX9_ticks cX9_ticks 5 (some .int) :: ((wsX9_ticks_r1 ++ (wsX9_ticks_r2 ++ (wsX9_ticks_r3 ++ wsX9_ticks_r4))) ++ wsX90)
def wsX9_tick_r1 : List Cond := [Cond.methodLink RX9 185 yX9_ticks, Cond.instanceMethod yX9_ticks, Cond.selects RX9 yX9_ticks yX9_ticks, Cond.initialized RX9, Cond.code yX9_ticks cX9_ticks 5 (some .int), Cond.fieldLink RX9 32 "PressGuardModel" "mode" "I", Cond.methodLink RX9 187 yX9_isSet, Cond.static yX9_isSet, Cond.code yX9_isSet cX9_isSet 1 (some .boolean), Cond.methodLink RX9 66 yX9_within, Cond.static yX9_within, Cond.code yX9_within cX9_within 3 (some .boolean), Cond.methodLink RX9 191 yX9_tickBy, Cond.instanceMethod yX9_tickBy, Cond.selects RX9 yX9_tickBy yX9_tickBy, Cond.code yX9_tickBy cX9_tickBy 7 none, Cond.fieldLink RX9 35 "PressGuardModel" "apart" "[I", Cond.fieldLink RX9 86 "PressGuardModel" "muting" "I", Cond.fieldLink RX9 100 "PressGuardModel" "mutedFor" "I", Cond.fieldLink RX9 16 "PressGuardModel" "limit" "I", Cond.fieldLink RX9 74 "PressGuardModel" "hands" "I", Cond.fieldLink RX9 77 "PressGuardModel" "since" "I", Cond.fieldLink RX9 80 "PressGuardModel" "command" "I", Cond.fieldLink RX9 83 "PressGuardModel" "unlike" "I"]
def wsX9_tick_r2 : List Cond := [Cond.fieldLink RX9 113 "PressGuardModel" "wasReset" "I", Cond.methodLink RX9 89 yX9_seen, Cond.instanceMethod yX9_seen, Cond.selects RX9 yX9_seen yX9_seen, Cond.code yX9_seen cX9_seen 4 (some .int), Cond.fieldLink RX9 25 "PressGuardModel" "stuck" "[I", Cond.methodLink RX9 70 yX9_bit, Cond.static yX9_bit, Cond.code yX9_bit cX9_bit 2 (some .int), Cond.methodLink RX9 93 yX9_more, Cond.static yX9_more, Cond.code yX9_more cX9_more 1 (some .int), Cond.methodLink RX9 96 yX9_mutingBy, Cond.static yX9_mutingBy, Cond.code yX9_mutingBy cX9_mutingBy 3 (some .int), Cond.methodLink RX9 103 yX9_isOn, Cond.static yX9_isOn, Cond.code yX9_isOn cX9_isOn 2 (some .boolean), Cond.methodLink RX9 107 yX9_handsBy, Cond.instanceMethod yX9_handsBy, Cond.selects RX9 yX9_handsBy yX9_handsBy, Cond.code yX9_handsBy cX9_handsBy 2 (some .int), Cond.fieldLink RX9 13 "PressGuardModel" "span" "I", Cond.methodLink RX9 110 yX9_valveAt]
def wsX9_tick_r3 : List Cond := [Cond.instanceMethod yX9_valveAt, Cond.selects RX9 yX9_valveAt yX9_valveAt, Cond.code yX9_valveAt cX9_valveAt 2 (some .int), Cond.fieldLink RX9 29 "PressGuardModel" "valves" "[I", Cond.methodLink RX9 116 yX9_goesOn, Cond.instanceMethod yX9_goesOn, Cond.selects RX9 yX9_goesOn yX9_goesOn, Cond.code yX9_goesOn cX9_goesOn 5 none, Cond.fieldLink RX9 127 "PressGuardModel" "newCause" "I", Cond.fieldLink RX9 38 "PressGuardModel" "lockedBy" "I", Cond.fieldLink RX9 130 "PressGuardModel" "position" "I", Cond.fieldLink RX9 133 "PressGuardModel" "newPlace" "I", Cond.fieldLink RX9 22 "PressGuardModel" "bottom" "I", Cond.methodLink RX9 124 yX9_leastCause, Cond.instanceMethod yX9_leastCause, Cond.selects RX9 yX9_leastCause yX9_leastCause, Cond.code yX9_leastCause cX9_leastCause 3 (some .int), Cond.fieldLink RX9 7 "PressGuardModel" "patience" "I", Cond.methodLink RX9 120 yX9_slides, Cond.instanceMethod yX9_slides, Cond.selects RX9 yX9_slides yX9_slides, Cond.code yX9_slides cX9_slides 3 none, Cond.fieldLink RX9 136 "PressGuardModel" "danger" "I", Cond.fieldLink RX9 139 "PressGuardModel" "round" "I"]
def wsX9_tick_r4 : List Cond := [Cond.fieldLink RX9 19 "PressGuardModel" "overrun" "I", Cond.fieldLink RX9 142 "PressGuardModel" "brake" "I", Cond.methodLink RX9 195 yX9_notes, Cond.instanceMethod yX9_notes, Cond.selects RX9 yX9_notes yX9_notes, Cond.code yX9_notes cX9_notes 4 none, Cond.fieldLink RX9 170 "PressGuardModel" "ticks" "I", Cond.fieldLink RX9 173 "PressGuardModel" "dangers" "I", Cond.fieldLink RX9 176 "PressGuardModel" "rounds" "I", Cond.fieldLink RX9 47 "PressGuardModel" "behind" "[I", Cond.fieldLink RX9 179 "PressGuardModel" "locks" "I", Cond.fieldLink RX9 41 "PressGuardModel" "lockedAt" "[I", Cond.fieldLink RX9 182 "PressGuardModel" "manyCauses" "I", Cond.fieldLink RX9 44 "PressGuardModel" "firstCauses" "[I"]
def wsX9_tick : List Cond := .code yX9_tick cX9_tick 2 (some .int) :: ((wsX9_tick_r1 ++ (wsX9_tick_r2 ++ (wsX9_tick_r3 ++ wsX9_tick_r4))) ++ wsX90)
def wsX9_now : List Cond := .code yX9_now cX9_now 2 (some .int) :: ([.fieldLink RX9 32 "PressGuardModel" "mode" "I", .fieldLink RX9 74 "PressGuardModel" "hands" "I", .fieldLink RX9 77 "PressGuardModel" "since" "I", .fieldLink RX9 86 "PressGuardModel" "muting" "I", .fieldLink RX9 100 "PressGuardModel" "mutedFor" "I", .fieldLink RX9 35 "PressGuardModel" "apart" "[I", .fieldLink RX9 83 "PressGuardModel" "unlike" "I", .fieldLink RX9 80 "PressGuardModel" "command" "I", .fieldLink RX9 130 "PressGuardModel" "position" "I", .fieldLink RX9 142 "PressGuardModel" "brake" "I", .fieldLink RX9 113 "PressGuardModel" "wasReset" "I", .fieldLink RX9 38 "PressGuardModel" "lockedBy" "I"] ++ wsX90)
def wsX9_setting : List Cond := .code yX9_setting cX9_setting 2 (some .int) :: ([.fieldLink RX9 7 "PressGuardModel" "patience" "I", .fieldLink RX9 13 "PressGuardModel" "span" "I", .fieldLink RX9 16 "PressGuardModel" "limit" "I", .fieldLink RX9 19 "PressGuardModel" "overrun" "I", .fieldLink RX9 22 "PressGuardModel" "bottom" "I"] ++ wsX90)
def wsX9_leadsTo_r1 : List Cond := [Cond.fieldLink RX9 38 "PressGuardModel" "lockedBy" "I", Cond.fieldLink RX9 32 "PressGuardModel" "mode" "I", Cond.methodLink RX9 66 yX9_within, Cond.static yX9_within, Cond.initialized RX9, Cond.code yX9_within cX9_within 3 (some .boolean), Cond.methodLink RX9 198 yX9_stateOf, Cond.instanceMethod yX9_stateOf, Cond.selects RX9 yX9_stateOf yX9_stateOf, Cond.code yX9_stateOf cX9_stateOf 4 (some .long), Cond.constantLong RX9 145 (4), Cond.fieldLink RX9 74 "PressGuardModel" "hands" "I", Cond.constantLong RX9 147 (16), Cond.fieldLink RX9 77 "PressGuardModel" "since" "I", Cond.constantLong RX9 149 (8), Cond.fieldLink RX9 86 "PressGuardModel" "muting" "I", Cond.constantLong RX9 151 (32), Cond.fieldLink RX9 100 "PressGuardModel" "mutedFor" "I", Cond.fieldLink RX9 35 "PressGuardModel" "apart" "[I", Cond.fieldLink RX9 83 "PressGuardModel" "unlike" "I", Cond.constantLong RX9 153 (2), Cond.fieldLink RX9 80 "PressGuardModel" "command" "I", Cond.fieldLink RX9 130 "PressGuardModel" "position" "I", Cond.fieldLink RX9 142 "PressGuardModel" "brake" "I"]
def wsX9_leadsTo_r2 : List Cond := [Cond.fieldLink RX9 113 "PressGuardModel" "wasReset" "I", Cond.methodLink RX9 191 yX9_tickBy, Cond.instanceMethod yX9_tickBy, Cond.selects RX9 yX9_tickBy yX9_tickBy, Cond.code yX9_tickBy cX9_tickBy 7 none, Cond.fieldLink RX9 16 "PressGuardModel" "limit" "I", Cond.methodLink RX9 89 yX9_seen, Cond.instanceMethod yX9_seen, Cond.selects RX9 yX9_seen yX9_seen, Cond.code yX9_seen cX9_seen 4 (some .int), Cond.fieldLink RX9 25 "PressGuardModel" "stuck" "[I", Cond.methodLink RX9 70 yX9_bit, Cond.static yX9_bit, Cond.code yX9_bit cX9_bit 2 (some .int), Cond.methodLink RX9 93 yX9_more, Cond.static yX9_more, Cond.code yX9_more cX9_more 1 (some .int), Cond.methodLink RX9 96 yX9_mutingBy, Cond.static yX9_mutingBy, Cond.code yX9_mutingBy cX9_mutingBy 3 (some .int), Cond.methodLink RX9 103 yX9_isOn, Cond.static yX9_isOn, Cond.code yX9_isOn cX9_isOn 2 (some .boolean), Cond.methodLink RX9 107 yX9_handsBy]
def wsX9_leadsTo_r3 : List Cond := [Cond.instanceMethod yX9_handsBy, Cond.selects RX9 yX9_handsBy yX9_handsBy, Cond.code yX9_handsBy cX9_handsBy 2 (some .int), Cond.fieldLink RX9 13 "PressGuardModel" "span" "I", Cond.methodLink RX9 110 yX9_valveAt, Cond.instanceMethod yX9_valveAt, Cond.selects RX9 yX9_valveAt yX9_valveAt, Cond.code yX9_valveAt cX9_valveAt 2 (some .int), Cond.fieldLink RX9 29 "PressGuardModel" "valves" "[I", Cond.methodLink RX9 116 yX9_goesOn, Cond.instanceMethod yX9_goesOn, Cond.selects RX9 yX9_goesOn yX9_goesOn, Cond.code yX9_goesOn cX9_goesOn 5 none, Cond.fieldLink RX9 127 "PressGuardModel" "newCause" "I", Cond.fieldLink RX9 133 "PressGuardModel" "newPlace" "I", Cond.fieldLink RX9 22 "PressGuardModel" "bottom" "I", Cond.methodLink RX9 124 yX9_leastCause, Cond.instanceMethod yX9_leastCause, Cond.selects RX9 yX9_leastCause yX9_leastCause, Cond.code yX9_leastCause cX9_leastCause 3 (some .int), Cond.fieldLink RX9 7 "PressGuardModel" "patience" "I", Cond.methodLink RX9 120 yX9_slides, Cond.instanceMethod yX9_slides, Cond.selects RX9 yX9_slides yX9_slides]
def wsX9_leadsTo_r4 : List Cond := [Cond.code yX9_slides cX9_slides 3 none, Cond.fieldLink RX9 136 "PressGuardModel" "danger" "I", Cond.fieldLink RX9 139 "PressGuardModel" "round" "I", Cond.fieldLink RX9 19 "PressGuardModel" "overrun" "I", Cond.methodLink RX9 163 yX9_becomes, Cond.instanceMethod yX9_becomes, Cond.selects RX9 yX9_becomes yX9_becomes, Cond.code yX9_becomes cX9_becomes 5 none, Cond.fieldLink RX9 155 "PressGuardModel" "left" "J", Cond.methodLink RX9 159 yX9_takes, Cond.instanceMethod yX9_takes, Cond.selects RX9 yX9_takes yX9_takes, Cond.code yX9_takes cX9_takes 4 (some .int)]
def wsX9_leadsTo : List Cond := .code yX9_leadsTo cX9_leadsTo 7 (some .int) :: ((wsX9_leadsTo_r1 ++ (wsX9_leadsTo_r2 ++ (wsX9_leadsTo_r3 ++ wsX9_leadsTo_r4))) ++ wsX90)
def wsX9_locked : List Cond := .code yX9_locked cX9_locked 5 (some .int) :: ([.fieldLink RX9 41 "PressGuardModel" "lockedAt" "[I", .methodLink RX9 66 yX9_within, .static yX9_within, .initialized RX9, .code yX9_within cX9_within 3 (some .boolean)] ++ wsX90)
def wsX9_cause : List Cond := .code yX9_cause cX9_cause 2 (some .int) :: ([.fieldLink RX9 182 "PressGuardModel" "manyCauses" "I", .fieldLink RX9 44 "PressGuardModel" "firstCauses" "[I", .methodLink RX9 66 yX9_within, .static yX9_within, .initialized RX9, .code yX9_within cX9_within 3 (some .boolean)] ++ wsX90)
def wsX9_followed : List Cond := .code yX9_followed cX9_followed 2 (some .int) :: ([.fieldLink RX9 47 "PressGuardModel" "behind" "[I", .methodLink RX9 66 yX9_within, .static yX9_within, .initialized RX9, .code yX9_within cX9_within 3 (some .boolean)] ++ wsX90)
def wsX9_places : List Cond := .code yX9_places cX9_places 5 (some .int) :: ([.fieldLink RX9 41 "PressGuardModel" "lockedAt" "[I"] ++ wsX90)
def wsX9_step : List Cond := .code yX9_step cX9_step 2 (some .int) :: ([.fieldLink RX9 202 "PressGuardModel" "steps" "I", .fieldLink RX9 50 "PressGuardModel" "script" "[I", .methodLink RX9 187 yX9_isSet, .static yX9_isSet, .initialized RX9, .code yX9_isSet cX9_isSet 1 (some .boolean), .methodLink RX9 66 yX9_within, .static yX9_within, .code yX9_within cX9_within 3 (some .boolean)] ++ wsX90)
def wsX9_wipe : List Cond := .code yX9_wipe cX9_wipe 2 (some .int) :: ([.fieldLink RX9 202 "PressGuardModel" "steps" "I"] ++ wsX90)
def wsX9_stepAt : List Cond := .code yX9_stepAt cX9_stepAt 2 (some .int) :: ([.fieldLink RX9 202 "PressGuardModel" "steps" "I", .fieldLink RX9 50 "PressGuardModel" "script" "[I", .methodLink RX9 66 yX9_within, .static yX9_within, .initialized RX9, .code yX9_within cX9_within 3 (some .boolean)] ++ wsX90)
def wsX9_keeps : List Cond := .code yX9_keeps cX9_keeps 2 none :: ([.fieldLink RX9 56 "PressGuardModel" "keptStuck" "[I", .fieldLink RX9 25 "PressGuardModel" "stuck" "[I", .fieldLink RX9 29 "PressGuardModel" "valves" "[I"] ++ wsX90)
def wsX9_restores : List Cond := .code yX9_restores cX9_restores 2 none :: ([.fieldLink RX9 25 "PressGuardModel" "stuck" "[I", .fieldLink RX9 56 "PressGuardModel" "keptStuck" "[I", .fieldLink RX9 29 "PressGuardModel" "valves" "[I"] ++ wsX90)
def wsX9_tries_r1 : List Cond := [Cond.fieldLink RX9 38 "PressGuardModel" "lockedBy" "I", Cond.fieldLink RX9 53 "PressGuardModel" "results" "[I", Cond.fieldLink RX9 202 "PressGuardModel" "steps" "I", Cond.fieldLink RX9 25 "PressGuardModel" "stuck" "[I", Cond.fieldLink RX9 50 "PressGuardModel" "script" "[I", Cond.fieldLink RX9 136 "PressGuardModel" "danger" "I", Cond.fieldLink RX9 139 "PressGuardModel" "round" "I", Cond.fieldLink RX9 127 "PressGuardModel" "newCause" "I", Cond.fieldLink RX9 32 "PressGuardModel" "mode" "I", Cond.methodLink RX9 198 yX9_stateOf, Cond.instanceMethod yX9_stateOf, Cond.selects RX9 yX9_stateOf yX9_stateOf, Cond.initialized RX9, Cond.code yX9_stateOf cX9_stateOf 4 (some .long), Cond.constantLong RX9 145 (4), Cond.fieldLink RX9 74 "PressGuardModel" "hands" "I", Cond.constantLong RX9 147 (16), Cond.fieldLink RX9 77 "PressGuardModel" "since" "I", Cond.constantLong RX9 149 (8), Cond.fieldLink RX9 86 "PressGuardModel" "muting" "I", Cond.constantLong RX9 151 (32), Cond.fieldLink RX9 100 "PressGuardModel" "mutedFor" "I", Cond.fieldLink RX9 35 "PressGuardModel" "apart" "[I", Cond.fieldLink RX9 83 "PressGuardModel" "unlike" "I"]
def wsX9_tries_r2 : List Cond := [Cond.constantLong RX9 153 (2), Cond.fieldLink RX9 80 "PressGuardModel" "command" "I", Cond.fieldLink RX9 130 "PressGuardModel" "position" "I", Cond.fieldLink RX9 142 "PressGuardModel" "brake" "I", Cond.fieldLink RX9 113 "PressGuardModel" "wasReset" "I", Cond.methodLink RX9 205 yX9_keeps, Cond.instanceMethod yX9_keeps, Cond.selects RX9 yX9_keeps yX9_keeps, Cond.code yX9_keeps cX9_keeps 2 none, Cond.fieldLink RX9 56 "PressGuardModel" "keptStuck" "[I", Cond.fieldLink RX9 29 "PressGuardModel" "valves" "[I", Cond.methodLink RX9 167 yX9_begins, Cond.instanceMethod yX9_begins, Cond.selects RX9 yX9_begins yX9_begins, Cond.code yX9_begins cX9_begins 1 none, Cond.methodLink RX9 163 yX9_becomes, Cond.instanceMethod yX9_becomes, Cond.selects RX9 yX9_becomes yX9_becomes, Cond.code yX9_becomes cX9_becomes 5 none, Cond.fieldLink RX9 155 "PressGuardModel" "left" "J", Cond.methodLink RX9 159 yX9_takes, Cond.instanceMethod yX9_takes, Cond.selects RX9 yX9_takes yX9_takes, Cond.code yX9_takes cX9_takes 4 (some .int)]
def wsX9_tries_r3 : List Cond := [Cond.methodLink RX9 191 yX9_tickBy, Cond.instanceMethod yX9_tickBy, Cond.selects RX9 yX9_tickBy yX9_tickBy, Cond.code yX9_tickBy cX9_tickBy 7 none, Cond.fieldLink RX9 16 "PressGuardModel" "limit" "I", Cond.methodLink RX9 89 yX9_seen, Cond.instanceMethod yX9_seen, Cond.selects RX9 yX9_seen yX9_seen, Cond.code yX9_seen cX9_seen 4 (some .int), Cond.methodLink RX9 70 yX9_bit, Cond.static yX9_bit, Cond.code yX9_bit cX9_bit 2 (some .int), Cond.methodLink RX9 93 yX9_more, Cond.static yX9_more, Cond.code yX9_more cX9_more 1 (some .int), Cond.methodLink RX9 96 yX9_mutingBy, Cond.static yX9_mutingBy, Cond.code yX9_mutingBy cX9_mutingBy 3 (some .int), Cond.methodLink RX9 103 yX9_isOn, Cond.static yX9_isOn, Cond.code yX9_isOn cX9_isOn 2 (some .boolean), Cond.methodLink RX9 107 yX9_handsBy, Cond.instanceMethod yX9_handsBy, Cond.selects RX9 yX9_handsBy yX9_handsBy]
def wsX9_tries_r4 : List Cond := [Cond.code yX9_handsBy cX9_handsBy 2 (some .int), Cond.fieldLink RX9 13 "PressGuardModel" "span" "I", Cond.methodLink RX9 110 yX9_valveAt, Cond.instanceMethod yX9_valveAt, Cond.selects RX9 yX9_valveAt yX9_valveAt, Cond.code yX9_valveAt cX9_valveAt 2 (some .int), Cond.methodLink RX9 116 yX9_goesOn, Cond.instanceMethod yX9_goesOn, Cond.selects RX9 yX9_goesOn yX9_goesOn, Cond.code yX9_goesOn cX9_goesOn 5 none, Cond.fieldLink RX9 133 "PressGuardModel" "newPlace" "I", Cond.fieldLink RX9 22 "PressGuardModel" "bottom" "I", Cond.methodLink RX9 124 yX9_leastCause, Cond.instanceMethod yX9_leastCause, Cond.selects RX9 yX9_leastCause yX9_leastCause, Cond.code yX9_leastCause cX9_leastCause 3 (some .int), Cond.fieldLink RX9 7 "PressGuardModel" "patience" "I", Cond.methodLink RX9 120 yX9_slides, Cond.instanceMethod yX9_slides, Cond.selects RX9 yX9_slides yX9_slides, Cond.code yX9_slides cX9_slides 3 none, Cond.fieldLink RX9 19 "PressGuardModel" "overrun" "I", Cond.methodLink RX9 208 yX9_restores, Cond.instanceMethod yX9_restores]
def wsX9_tries_r5 : List Cond := [Cond.selects RX9 yX9_restores yX9_restores, Cond.code yX9_restores cX9_restores 2 none]
def wsX9_tries : List Cond := .code yX9_tries cX9_tries 8 none :: ((wsX9_tries_r1 ++ (wsX9_tries_r2 ++ (wsX9_tries_r3 ++ (wsX9_tries_r4 ++ wsX9_tries_r5)))) ++ wsX90)
def wsX9_trial_r1 : List Cond := [Cond.fieldLink RX9 202 "PressGuardModel" "steps" "I", Cond.fieldLink RX9 53 "PressGuardModel" "results" "[I", Cond.methodLink RX9 66 yX9_within, Cond.static yX9_within, Cond.initialized RX9, Cond.code yX9_within cX9_within 3 (some .boolean), Cond.methodLink RX9 211 yX9_tries, Cond.instanceMethod yX9_tries, Cond.selects RX9 yX9_tries yX9_tries, Cond.code yX9_tries cX9_tries 8 none, Cond.fieldLink RX9 38 "PressGuardModel" "lockedBy" "I", Cond.fieldLink RX9 25 "PressGuardModel" "stuck" "[I", Cond.fieldLink RX9 50 "PressGuardModel" "script" "[I", Cond.fieldLink RX9 136 "PressGuardModel" "danger" "I", Cond.fieldLink RX9 139 "PressGuardModel" "round" "I", Cond.fieldLink RX9 127 "PressGuardModel" "newCause" "I", Cond.fieldLink RX9 32 "PressGuardModel" "mode" "I", Cond.methodLink RX9 198 yX9_stateOf, Cond.instanceMethod yX9_stateOf, Cond.selects RX9 yX9_stateOf yX9_stateOf, Cond.code yX9_stateOf cX9_stateOf 4 (some .long), Cond.constantLong RX9 145 (4), Cond.fieldLink RX9 74 "PressGuardModel" "hands" "I", Cond.constantLong RX9 147 (16)]
def wsX9_trial_r2 : List Cond := [Cond.fieldLink RX9 77 "PressGuardModel" "since" "I", Cond.constantLong RX9 149 (8), Cond.fieldLink RX9 86 "PressGuardModel" "muting" "I", Cond.constantLong RX9 151 (32), Cond.fieldLink RX9 100 "PressGuardModel" "mutedFor" "I", Cond.fieldLink RX9 35 "PressGuardModel" "apart" "[I", Cond.fieldLink RX9 83 "PressGuardModel" "unlike" "I", Cond.constantLong RX9 153 (2), Cond.fieldLink RX9 80 "PressGuardModel" "command" "I", Cond.fieldLink RX9 130 "PressGuardModel" "position" "I", Cond.fieldLink RX9 142 "PressGuardModel" "brake" "I", Cond.fieldLink RX9 113 "PressGuardModel" "wasReset" "I", Cond.methodLink RX9 205 yX9_keeps, Cond.instanceMethod yX9_keeps, Cond.selects RX9 yX9_keeps yX9_keeps, Cond.code yX9_keeps cX9_keeps 2 none, Cond.fieldLink RX9 56 "PressGuardModel" "keptStuck" "[I", Cond.fieldLink RX9 29 "PressGuardModel" "valves" "[I", Cond.methodLink RX9 167 yX9_begins, Cond.instanceMethod yX9_begins, Cond.selects RX9 yX9_begins yX9_begins, Cond.code yX9_begins cX9_begins 1 none, Cond.methodLink RX9 163 yX9_becomes, Cond.instanceMethod yX9_becomes]
def wsX9_trial_r3 : List Cond := [Cond.selects RX9 yX9_becomes yX9_becomes, Cond.code yX9_becomes cX9_becomes 5 none, Cond.fieldLink RX9 155 "PressGuardModel" "left" "J", Cond.methodLink RX9 159 yX9_takes, Cond.instanceMethod yX9_takes, Cond.selects RX9 yX9_takes yX9_takes, Cond.code yX9_takes cX9_takes 4 (some .int), Cond.methodLink RX9 191 yX9_tickBy, Cond.instanceMethod yX9_tickBy, Cond.selects RX9 yX9_tickBy yX9_tickBy, Cond.code yX9_tickBy cX9_tickBy 7 none, Cond.fieldLink RX9 16 "PressGuardModel" "limit" "I", Cond.methodLink RX9 89 yX9_seen, Cond.instanceMethod yX9_seen, Cond.selects RX9 yX9_seen yX9_seen, Cond.code yX9_seen cX9_seen 4 (some .int), Cond.methodLink RX9 70 yX9_bit, Cond.static yX9_bit, Cond.code yX9_bit cX9_bit 2 (some .int), Cond.methodLink RX9 93 yX9_more, Cond.static yX9_more, Cond.code yX9_more cX9_more 1 (some .int), Cond.methodLink RX9 96 yX9_mutingBy, Cond.static yX9_mutingBy]
def wsX9_trial_r4 : List Cond := [Cond.code yX9_mutingBy cX9_mutingBy 3 (some .int), Cond.methodLink RX9 103 yX9_isOn, Cond.static yX9_isOn, Cond.code yX9_isOn cX9_isOn 2 (some .boolean), Cond.methodLink RX9 107 yX9_handsBy, Cond.instanceMethod yX9_handsBy, Cond.selects RX9 yX9_handsBy yX9_handsBy, Cond.code yX9_handsBy cX9_handsBy 2 (some .int), Cond.fieldLink RX9 13 "PressGuardModel" "span" "I", Cond.methodLink RX9 110 yX9_valveAt, Cond.instanceMethod yX9_valveAt, Cond.selects RX9 yX9_valveAt yX9_valveAt, Cond.code yX9_valveAt cX9_valveAt 2 (some .int), Cond.methodLink RX9 116 yX9_goesOn, Cond.instanceMethod yX9_goesOn, Cond.selects RX9 yX9_goesOn yX9_goesOn, Cond.code yX9_goesOn cX9_goesOn 5 none, Cond.fieldLink RX9 133 "PressGuardModel" "newPlace" "I", Cond.fieldLink RX9 22 "PressGuardModel" "bottom" "I", Cond.methodLink RX9 124 yX9_leastCause, Cond.instanceMethod yX9_leastCause, Cond.selects RX9 yX9_leastCause yX9_leastCause, Cond.code yX9_leastCause cX9_leastCause 3 (some .int), Cond.fieldLink RX9 7 "PressGuardModel" "patience" "I"]
def wsX9_trial_r5 : List Cond := [Cond.methodLink RX9 120 yX9_slides, Cond.instanceMethod yX9_slides, Cond.selects RX9 yX9_slides yX9_slides, Cond.code yX9_slides cX9_slides 3 none, Cond.fieldLink RX9 19 "PressGuardModel" "overrun" "I", Cond.methodLink RX9 208 yX9_restores, Cond.instanceMethod yX9_restores, Cond.selects RX9 yX9_restores yX9_restores, Cond.code yX9_restores cX9_restores 2 none]
def wsX9_trial : List Cond := .code yX9_trial cX9_trial 5 (some .int) :: ((wsX9_trial_r1 ++ (wsX9_trial_r2 ++ (wsX9_trial_r3 ++ (wsX9_trial_r4 ++ wsX9_trial_r5)))) ++ wsX90)
def wsX9_trials_r1 : List Cond := [Cond.fieldLink RX9 202 "PressGuardModel" "steps" "I", Cond.fieldLink RX9 53 "PressGuardModel" "results" "[I", Cond.methodLink RX9 66 yX9_within, Cond.static yX9_within, Cond.initialized RX9, Cond.code yX9_within cX9_within 3 (some .boolean), Cond.methodLink RX9 211 yX9_tries, Cond.instanceMethod yX9_tries, Cond.selects RX9 yX9_tries yX9_tries, Cond.code yX9_tries cX9_tries 8 none, Cond.fieldLink RX9 38 "PressGuardModel" "lockedBy" "I", Cond.fieldLink RX9 25 "PressGuardModel" "stuck" "[I", Cond.fieldLink RX9 50 "PressGuardModel" "script" "[I", Cond.fieldLink RX9 136 "PressGuardModel" "danger" "I", Cond.fieldLink RX9 139 "PressGuardModel" "round" "I", Cond.fieldLink RX9 127 "PressGuardModel" "newCause" "I", Cond.fieldLink RX9 32 "PressGuardModel" "mode" "I", Cond.methodLink RX9 198 yX9_stateOf, Cond.instanceMethod yX9_stateOf, Cond.selects RX9 yX9_stateOf yX9_stateOf, Cond.code yX9_stateOf cX9_stateOf 4 (some .long), Cond.constantLong RX9 145 (4), Cond.fieldLink RX9 74 "PressGuardModel" "hands" "I", Cond.constantLong RX9 147 (16)]
def wsX9_trials_r2 : List Cond := [Cond.fieldLink RX9 77 "PressGuardModel" "since" "I", Cond.constantLong RX9 149 (8), Cond.fieldLink RX9 86 "PressGuardModel" "muting" "I", Cond.constantLong RX9 151 (32), Cond.fieldLink RX9 100 "PressGuardModel" "mutedFor" "I", Cond.fieldLink RX9 35 "PressGuardModel" "apart" "[I", Cond.fieldLink RX9 83 "PressGuardModel" "unlike" "I", Cond.constantLong RX9 153 (2), Cond.fieldLink RX9 80 "PressGuardModel" "command" "I", Cond.fieldLink RX9 130 "PressGuardModel" "position" "I", Cond.fieldLink RX9 142 "PressGuardModel" "brake" "I", Cond.fieldLink RX9 113 "PressGuardModel" "wasReset" "I", Cond.methodLink RX9 205 yX9_keeps, Cond.instanceMethod yX9_keeps, Cond.selects RX9 yX9_keeps yX9_keeps, Cond.code yX9_keeps cX9_keeps 2 none, Cond.fieldLink RX9 56 "PressGuardModel" "keptStuck" "[I", Cond.fieldLink RX9 29 "PressGuardModel" "valves" "[I", Cond.methodLink RX9 167 yX9_begins, Cond.instanceMethod yX9_begins, Cond.selects RX9 yX9_begins yX9_begins, Cond.code yX9_begins cX9_begins 1 none, Cond.methodLink RX9 163 yX9_becomes, Cond.instanceMethod yX9_becomes]
def wsX9_trials_r3 : List Cond := [Cond.selects RX9 yX9_becomes yX9_becomes, Cond.code yX9_becomes cX9_becomes 5 none, Cond.fieldLink RX9 155 "PressGuardModel" "left" "J", Cond.methodLink RX9 159 yX9_takes, Cond.instanceMethod yX9_takes, Cond.selects RX9 yX9_takes yX9_takes, Cond.code yX9_takes cX9_takes 4 (some .int), Cond.methodLink RX9 191 yX9_tickBy, Cond.instanceMethod yX9_tickBy, Cond.selects RX9 yX9_tickBy yX9_tickBy, Cond.code yX9_tickBy cX9_tickBy 7 none, Cond.fieldLink RX9 16 "PressGuardModel" "limit" "I", Cond.methodLink RX9 89 yX9_seen, Cond.instanceMethod yX9_seen, Cond.selects RX9 yX9_seen yX9_seen, Cond.code yX9_seen cX9_seen 4 (some .int), Cond.methodLink RX9 70 yX9_bit, Cond.static yX9_bit, Cond.code yX9_bit cX9_bit 2 (some .int), Cond.methodLink RX9 93 yX9_more, Cond.static yX9_more, Cond.code yX9_more cX9_more 1 (some .int), Cond.methodLink RX9 96 yX9_mutingBy, Cond.static yX9_mutingBy]
def wsX9_trials_r4 : List Cond := [Cond.code yX9_mutingBy cX9_mutingBy 3 (some .int), Cond.methodLink RX9 103 yX9_isOn, Cond.static yX9_isOn, Cond.code yX9_isOn cX9_isOn 2 (some .boolean), Cond.methodLink RX9 107 yX9_handsBy, Cond.instanceMethod yX9_handsBy, Cond.selects RX9 yX9_handsBy yX9_handsBy, Cond.code yX9_handsBy cX9_handsBy 2 (some .int), Cond.fieldLink RX9 13 "PressGuardModel" "span" "I", Cond.methodLink RX9 110 yX9_valveAt, Cond.instanceMethod yX9_valveAt, Cond.selects RX9 yX9_valveAt yX9_valveAt, Cond.code yX9_valveAt cX9_valveAt 2 (some .int), Cond.methodLink RX9 116 yX9_goesOn, Cond.instanceMethod yX9_goesOn, Cond.selects RX9 yX9_goesOn yX9_goesOn, Cond.code yX9_goesOn cX9_goesOn 5 none, Cond.fieldLink RX9 133 "PressGuardModel" "newPlace" "I", Cond.fieldLink RX9 22 "PressGuardModel" "bottom" "I", Cond.methodLink RX9 124 yX9_leastCause, Cond.instanceMethod yX9_leastCause, Cond.selects RX9 yX9_leastCause yX9_leastCause, Cond.code yX9_leastCause cX9_leastCause 3 (some .int), Cond.fieldLink RX9 7 "PressGuardModel" "patience" "I"]
def wsX9_trials_r5 : List Cond := [Cond.methodLink RX9 120 yX9_slides, Cond.instanceMethod yX9_slides, Cond.selects RX9 yX9_slides yX9_slides, Cond.code yX9_slides cX9_slides 3 none, Cond.fieldLink RX9 19 "PressGuardModel" "overrun" "I", Cond.methodLink RX9 208 yX9_restores, Cond.instanceMethod yX9_restores, Cond.selects RX9 yX9_restores yX9_restores, Cond.code yX9_restores cX9_restores 2 none]
def wsX9_trials : List Cond := .code yX9_trials cX9_trials 10 (some .int) :: ((wsX9_trials_r1 ++ (wsX9_trials_r2 ++ (wsX9_trials_r3 ++ (wsX9_trials_r4 ++ wsX9_trials_r5)))) ++ wsX90)
def wsX9_isMay : List Cond := .code yX9_isMay cX9_isMay 4 (some .boolean) :: ([.methodLink RX9 70 yX9_bit, .static yX9_bit, .initialized RX9, .code yX9_bit cX9_bit 2 (some .int), .methodLink RX9 187 yX9_isSet, .static yX9_isSet, .code yX9_isSet cX9_isSet 1 (some .boolean), .methodLink RX9 66 yX9_within, .static yX9_within, .code yX9_within cX9_within 3 (some .boolean)])
def wsX9_comes : List Cond := .code yX9_comes cX9_comes 5 none :: ([.fieldLink RX9 215 "PressGuardModel" "states" "I", .fieldLink RX9 59 "PressGuardModel" "stateAt" "[J", .fieldLink RX9 63 "PressGuardModel" "depthAt" "[I", .methodLink RX9 198 yX9_stateOf, .instanceMethod yX9_stateOf, .selects RX9 yX9_stateOf yX9_stateOf, .initialized RX9, .code yX9_stateOf cX9_stateOf 4 (some .long), .fieldLink RX9 32 "PressGuardModel" "mode" "I", .constantLong RX9 145 (4), .fieldLink RX9 74 "PressGuardModel" "hands" "I", .constantLong RX9 147 (16), .fieldLink RX9 77 "PressGuardModel" "since" "I", .constantLong RX9 149 (8), .fieldLink RX9 86 "PressGuardModel" "muting" "I", .constantLong RX9 151 (32), .fieldLink RX9 100 "PressGuardModel" "mutedFor" "I", .fieldLink RX9 35 "PressGuardModel" "apart" "[I", .fieldLink RX9 83 "PressGuardModel" "unlike" "I", .constantLong RX9 153 (2), .fieldLink RX9 80 "PressGuardModel" "command" "I", .fieldLink RX9 130 "PressGuardModel" "position" "I", .fieldLink RX9 142 "PressGuardModel" "brake" "I", .fieldLink RX9 113 "PressGuardModel" "wasReset" "I"] ++ wsX90)
def wsX9_chosen : List Cond := .code yX9_chosen cX9_chosen 6 (some .int) :: ([.methodLink RX9 70 yX9_bit, .static yX9_bit, .initialized RX9, .code yX9_bit cX9_bit 2 (some .int)])
def wsX9_goesAll_r1 : List Cond := [Cond.fieldLink RX9 38 "PressGuardModel" "lockedBy" "I", Cond.fieldLink RX9 215 "PressGuardModel" "states" "I", Cond.fieldLink RX9 218 "PressGuardModel" "mostDangers" "I", Cond.fieldLink RX9 136 "PressGuardModel" "danger" "I", Cond.methodLink RX9 198 yX9_stateOf, Cond.instanceMethod yX9_stateOf, Cond.selects RX9 yX9_stateOf yX9_stateOf, Cond.initialized RX9, Cond.code yX9_stateOf cX9_stateOf 4 (some .long), Cond.fieldLink RX9 32 "PressGuardModel" "mode" "I", Cond.constantLong RX9 145 (4), Cond.fieldLink RX9 74 "PressGuardModel" "hands" "I", Cond.constantLong RX9 147 (16), Cond.fieldLink RX9 77 "PressGuardModel" "since" "I", Cond.constantLong RX9 149 (8), Cond.fieldLink RX9 86 "PressGuardModel" "muting" "I", Cond.constantLong RX9 151 (32), Cond.fieldLink RX9 100 "PressGuardModel" "mutedFor" "I", Cond.fieldLink RX9 35 "PressGuardModel" "apart" "[I", Cond.fieldLink RX9 83 "PressGuardModel" "unlike" "I", Cond.constantLong RX9 153 (2), Cond.fieldLink RX9 80 "PressGuardModel" "command" "I", Cond.fieldLink RX9 130 "PressGuardModel" "position" "I", Cond.fieldLink RX9 142 "PressGuardModel" "brake" "I"]
def wsX9_goesAll_r2 : List Cond := [Cond.fieldLink RX9 113 "PressGuardModel" "wasReset" "I", Cond.methodLink RX9 221 yX9_comes, Cond.instanceMethod yX9_comes, Cond.selects RX9 yX9_comes yX9_comes, Cond.code yX9_comes cX9_comes 5 none, Cond.fieldLink RX9 59 "PressGuardModel" "stateAt" "[J", Cond.fieldLink RX9 63 "PressGuardModel" "depthAt" "[I", Cond.methodLink RX9 224 yX9_chosen, Cond.static yX9_chosen, Cond.code yX9_chosen cX9_chosen 6 (some .int), Cond.methodLink RX9 70 yX9_bit, Cond.static yX9_bit, Cond.code yX9_bit cX9_bit 2 (some .int), Cond.methodLink RX9 191 yX9_tickBy, Cond.instanceMethod yX9_tickBy, Cond.selects RX9 yX9_tickBy yX9_tickBy, Cond.code yX9_tickBy cX9_tickBy 7 none, Cond.fieldLink RX9 16 "PressGuardModel" "limit" "I", Cond.methodLink RX9 89 yX9_seen, Cond.instanceMethod yX9_seen, Cond.selects RX9 yX9_seen yX9_seen, Cond.code yX9_seen cX9_seen 4 (some .int), Cond.fieldLink RX9 25 "PressGuardModel" "stuck" "[I", Cond.methodLink RX9 93 yX9_more]
def wsX9_goesAll_r3 : List Cond := [Cond.static yX9_more, Cond.code yX9_more cX9_more 1 (some .int), Cond.methodLink RX9 96 yX9_mutingBy, Cond.static yX9_mutingBy, Cond.code yX9_mutingBy cX9_mutingBy 3 (some .int), Cond.methodLink RX9 103 yX9_isOn, Cond.static yX9_isOn, Cond.code yX9_isOn cX9_isOn 2 (some .boolean), Cond.methodLink RX9 107 yX9_handsBy, Cond.instanceMethod yX9_handsBy, Cond.selects RX9 yX9_handsBy yX9_handsBy, Cond.code yX9_handsBy cX9_handsBy 2 (some .int), Cond.fieldLink RX9 13 "PressGuardModel" "span" "I", Cond.methodLink RX9 110 yX9_valveAt, Cond.instanceMethod yX9_valveAt, Cond.selects RX9 yX9_valveAt yX9_valveAt, Cond.code yX9_valveAt cX9_valveAt 2 (some .int), Cond.fieldLink RX9 29 "PressGuardModel" "valves" "[I", Cond.methodLink RX9 116 yX9_goesOn, Cond.instanceMethod yX9_goesOn, Cond.selects RX9 yX9_goesOn yX9_goesOn, Cond.code yX9_goesOn cX9_goesOn 5 none, Cond.fieldLink RX9 127 "PressGuardModel" "newCause" "I", Cond.fieldLink RX9 133 "PressGuardModel" "newPlace" "I"]
def wsX9_goesAll_r4 : List Cond := [Cond.fieldLink RX9 22 "PressGuardModel" "bottom" "I", Cond.methodLink RX9 124 yX9_leastCause, Cond.instanceMethod yX9_leastCause, Cond.selects RX9 yX9_leastCause yX9_leastCause, Cond.code yX9_leastCause cX9_leastCause 3 (some .int), Cond.fieldLink RX9 7 "PressGuardModel" "patience" "I", Cond.methodLink RX9 120 yX9_slides, Cond.instanceMethod yX9_slides, Cond.selects RX9 yX9_slides yX9_slides, Cond.code yX9_slides cX9_slides 3 none, Cond.fieldLink RX9 139 "PressGuardModel" "round" "I", Cond.fieldLink RX9 19 "PressGuardModel" "overrun" "I", Cond.methodLink RX9 163 yX9_becomes, Cond.instanceMethod yX9_becomes, Cond.selects RX9 yX9_becomes yX9_becomes, Cond.code yX9_becomes cX9_becomes 5 none, Cond.fieldLink RX9 155 "PressGuardModel" "left" "J", Cond.methodLink RX9 159 yX9_takes, Cond.instanceMethod yX9_takes, Cond.selects RX9 yX9_takes yX9_takes, Cond.code yX9_takes cX9_takes 4 (some .int)]
def wsX9_goesAll : List Cond := .code yX9_goesAll cX9_goesAll 10 none :: ((wsX9_goesAll_r1 ++ (wsX9_goesAll_r2 ++ (wsX9_goesAll_r3 ++ wsX9_goesAll_r4))) ++ wsX90)
def wsX9_modeOf : List Cond := .code yX9_modeOf cX9_modeOf 3 (some .int) :: ([])
def wsX9_reach_r1 : List Cond := [Cond.fieldLink RX9 215 "PressGuardModel" "states" "I", Cond.fieldLink RX9 218 "PressGuardModel" "mostDangers" "I", Cond.fieldLink RX9 59 "PressGuardModel" "stateAt" "[J", Cond.fieldLink RX9 63 "PressGuardModel" "depthAt" "[I", Cond.methodLink RX9 187 yX9_isSet, Cond.static yX9_isSet, Cond.initialized RX9, Cond.code yX9_isSet cX9_isSet 1 (some .boolean), Cond.methodLink RX9 66 yX9_within, Cond.static yX9_within, Cond.code yX9_within cX9_within 3 (some .boolean), Cond.methodLink RX9 227 yX9_isMay, Cond.instanceMethod yX9_isMay, Cond.selects RX9 yX9_isMay yX9_isMay, Cond.code yX9_isMay cX9_isMay 4 (some .boolean), Cond.methodLink RX9 70 yX9_bit, Cond.static yX9_bit, Cond.code yX9_bit cX9_bit 2 (some .int), Cond.methodLink RX9 230 yX9_goesAll, Cond.instanceMethod yX9_goesAll, Cond.selects RX9 yX9_goesAll yX9_goesAll, Cond.code yX9_goesAll cX9_goesAll 10 none, Cond.fieldLink RX9 38 "PressGuardModel" "lockedBy" "I", Cond.fieldLink RX9 136 "PressGuardModel" "danger" "I"]
def wsX9_reach_r2 : List Cond := [Cond.methodLink RX9 198 yX9_stateOf, Cond.instanceMethod yX9_stateOf, Cond.selects RX9 yX9_stateOf yX9_stateOf, Cond.code yX9_stateOf cX9_stateOf 4 (some .long), Cond.fieldLink RX9 32 "PressGuardModel" "mode" "I", Cond.constantLong RX9 145 (4), Cond.fieldLink RX9 74 "PressGuardModel" "hands" "I", Cond.constantLong RX9 147 (16), Cond.fieldLink RX9 77 "PressGuardModel" "since" "I", Cond.constantLong RX9 149 (8), Cond.fieldLink RX9 86 "PressGuardModel" "muting" "I", Cond.constantLong RX9 151 (32), Cond.fieldLink RX9 100 "PressGuardModel" "mutedFor" "I", Cond.fieldLink RX9 35 "PressGuardModel" "apart" "[I", Cond.fieldLink RX9 83 "PressGuardModel" "unlike" "I", Cond.constantLong RX9 153 (2), Cond.fieldLink RX9 80 "PressGuardModel" "command" "I", Cond.fieldLink RX9 130 "PressGuardModel" "position" "I", Cond.fieldLink RX9 142 "PressGuardModel" "brake" "I", Cond.fieldLink RX9 113 "PressGuardModel" "wasReset" "I", Cond.methodLink RX9 221 yX9_comes, Cond.instanceMethod yX9_comes, Cond.selects RX9 yX9_comes yX9_comes, Cond.code yX9_comes cX9_comes 5 none]
def wsX9_reach_r3 : List Cond := [Cond.methodLink RX9 224 yX9_chosen, Cond.static yX9_chosen, Cond.code yX9_chosen cX9_chosen 6 (some .int), Cond.methodLink RX9 191 yX9_tickBy, Cond.instanceMethod yX9_tickBy, Cond.selects RX9 yX9_tickBy yX9_tickBy, Cond.code yX9_tickBy cX9_tickBy 7 none, Cond.fieldLink RX9 16 "PressGuardModel" "limit" "I", Cond.methodLink RX9 89 yX9_seen, Cond.instanceMethod yX9_seen, Cond.selects RX9 yX9_seen yX9_seen, Cond.code yX9_seen cX9_seen 4 (some .int), Cond.fieldLink RX9 25 "PressGuardModel" "stuck" "[I", Cond.methodLink RX9 93 yX9_more, Cond.static yX9_more, Cond.code yX9_more cX9_more 1 (some .int), Cond.methodLink RX9 96 yX9_mutingBy, Cond.static yX9_mutingBy, Cond.code yX9_mutingBy cX9_mutingBy 3 (some .int), Cond.methodLink RX9 103 yX9_isOn, Cond.static yX9_isOn, Cond.code yX9_isOn cX9_isOn 2 (some .boolean), Cond.methodLink RX9 107 yX9_handsBy, Cond.instanceMethod yX9_handsBy]
def wsX9_reach_r4 : List Cond := [Cond.selects RX9 yX9_handsBy yX9_handsBy, Cond.code yX9_handsBy cX9_handsBy 2 (some .int), Cond.fieldLink RX9 13 "PressGuardModel" "span" "I", Cond.methodLink RX9 110 yX9_valveAt, Cond.instanceMethod yX9_valveAt, Cond.selects RX9 yX9_valveAt yX9_valveAt, Cond.code yX9_valveAt cX9_valveAt 2 (some .int), Cond.fieldLink RX9 29 "PressGuardModel" "valves" "[I", Cond.methodLink RX9 116 yX9_goesOn, Cond.instanceMethod yX9_goesOn, Cond.selects RX9 yX9_goesOn yX9_goesOn, Cond.code yX9_goesOn cX9_goesOn 5 none, Cond.fieldLink RX9 127 "PressGuardModel" "newCause" "I", Cond.fieldLink RX9 133 "PressGuardModel" "newPlace" "I", Cond.fieldLink RX9 22 "PressGuardModel" "bottom" "I", Cond.methodLink RX9 124 yX9_leastCause, Cond.instanceMethod yX9_leastCause, Cond.selects RX9 yX9_leastCause yX9_leastCause, Cond.code yX9_leastCause cX9_leastCause 3 (some .int), Cond.fieldLink RX9 7 "PressGuardModel" "patience" "I", Cond.methodLink RX9 120 yX9_slides, Cond.instanceMethod yX9_slides, Cond.selects RX9 yX9_slides yX9_slides, Cond.code yX9_slides cX9_slides 3 none]
def wsX9_reach_r5 : List Cond := [Cond.fieldLink RX9 139 "PressGuardModel" "round" "I", Cond.fieldLink RX9 19 "PressGuardModel" "overrun" "I", Cond.methodLink RX9 163 yX9_becomes, Cond.instanceMethod yX9_becomes, Cond.selects RX9 yX9_becomes yX9_becomes, Cond.code yX9_becomes cX9_becomes 5 none, Cond.fieldLink RX9 155 "PressGuardModel" "left" "J", Cond.methodLink RX9 159 yX9_takes, Cond.instanceMethod yX9_takes, Cond.selects RX9 yX9_takes yX9_takes, Cond.code yX9_takes cX9_takes 4 (some .int), Cond.methodLink RX9 233 yX9_modeOf, Cond.instanceMethod yX9_modeOf, Cond.selects RX9 yX9_modeOf yX9_modeOf, Cond.code yX9_modeOf cX9_modeOf 3 (some .int)]
def wsX9_reach : List Cond := .code yX9_reach cX9_reach 8 (some .int) :: ((wsX9_reach_r1 ++ (wsX9_reach_r2 ++ (wsX9_reach_r3 ++ (wsX9_reach_r4 ++ wsX9_reach_r5)))) ++ wsX90)
def wsX9_many : List Cond := .code yX9_many cX9_many 4 (some .int) :: ([.fieldLink RX9 170 "PressGuardModel" "ticks" "I", .fieldLink RX9 173 "PressGuardModel" "dangers" "I", .fieldLink RX9 176 "PressGuardModel" "rounds" "I", .fieldLink RX9 202 "PressGuardModel" "steps" "I", .fieldLink RX9 25 "PressGuardModel" "stuck" "[I", .fieldLink RX9 29 "PressGuardModel" "valves" "[I", .fieldLink RX9 179 "PressGuardModel" "locks" "I"] ++ wsX90)
def wsJ9_max_7cf53 : List Cond := .code yJ9_max_7cf53 cJ9_max_7cf53 2 (some .int) :: ([])
def wsJ9_min_7cf53 : List Cond := .code yJ9_min_7cf53 cJ9_min_7cf53 2 (some .int) :: ([])
abbrev vwCl : List vw_C := [(RX0, TX0, 4), (RX1, TX1, 7), (RX2, TX2, 18), (RX3, TX3, 2), (RX4, TX4, 7), (RX5, TX5, 5), (RX6, TX6, 4), (RX7, TX7, 7), (RX8, TX8, 10), (RX9, TX9, 40)]
end
section
theorem dX0_init_0 : decode cX0_init 0 = .ok (.aload_n 0, 1) := by decide +kernel
theorem dX0_init_1 : decode cX0_init 1 = .ok (.invokespecial 3, 3) := by decide +kernel
theorem dX0_init_4 : decode cX0_init 4 = .ok (.aload_n 0, 1) := by decide +kernel
theorem dX0_init_5 : decode cX0_init 5 = .ok (.iconst 0, 1) := by decide +kernel
theorem dX0_init_6 : decode cX0_init 6 = .ok (.putfield 9, 3) := by decide +kernel
theorem dX0_init_9 : decode cX0_init 9 = .ok (.aload_n 0, 1) := by decide +kernel
theorem dX0_init_10 : decode cX0_init 10 = .ok (.iconst 0, 1) := by decide +kernel
theorem dX0_init_11 : decode cX0_init 11 = .ok (.putfield 15, 3) := by decide +kernel
theorem dX0_init_14 : decode cX0_init 14 = .ok (.aload_n 0, 1) := by decide +kernel
theorem dX0_init_15 : decode cX0_init 15 = .ok (.iconst 2, 1) := by decide +kernel
theorem dX0_init_16 : decode cX0_init 16 = .ok (.putfield 18, 3) := by decide +kernel
theorem dX0_init_19 : decode cX0_init 19 = .ok (.aload_n 0, 1) := by decide +kernel
theorem dX0_init_20 : decode cX0_init 20 = .ok (.iconst 2, 1) := by decide +kernel
theorem dX0_init_21 : decode cX0_init 21 = .ok (.putfield 21, 3) := by decide +kernel
theorem dX0_init_24 : decode cX0_init 24 = .ok (.return_, 1) := by decide +kernel
theorem dX0_clear_0 : decode cX0_clear 0 = .ok (.aload_n 0, 1) := by decide +kernel
theorem dX0_clear_1 : decode cX0_clear 1 = .ok (.iconst 0, 1) := by decide +kernel
theorem dX0_clear_2 : decode cX0_clear 2 = .ok (.putfield 9, 3) := by decide +kernel
theorem dX0_clear_5 : decode cX0_clear 5 = .ok (.aload_n 0, 1) := by decide +kernel
theorem dX0_clear_6 : decode cX0_clear 6 = .ok (.iconst 0, 1) := by decide +kernel
theorem dX0_clear_7 : decode cX0_clear 7 = .ok (.putfield 15, 3) := by decide +kernel
theorem dX0_clear_10 : decode cX0_clear 10 = .ok (.aload_n 0, 1) := by decide +kernel
theorem dX0_clear_11 : decode cX0_clear 11 = .ok (.iconst 2, 1) := by decide +kernel
theorem dX0_clear_12 : decode cX0_clear 12 = .ok (.putfield 18, 3) := by decide +kernel
theorem dX0_clear_15 : decode cX0_clear 15 = .ok (.aload_n 0, 1) := by decide +kernel
theorem dX0_clear_16 : decode cX0_clear 16 = .ok (.iconst 2, 1) := by decide +kernel
theorem dX0_clear_17 : decode cX0_clear 17 = .ok (.putfield 21, 3) := by decide +kernel
theorem dX0_clear_20 : decode cX0_clear 20 = .ok (.return_, 1) := by decide +kernel
set_option maxRecDepth 20000 in
theorem ggX0_inputStuckAt_X8_bit : GoodIn wsX0_inputStuckAt wsX8_bit := goodIn_r _ [5] (by decide +kernel) (by decide +kernel)
set_option maxRecDepth 20000 in
theorem gX0_inputStuckAt_X8_bit_n24 : GoodIn wsX0_inputStuckAt (wsX8_bit) := ggX0_inputStuckAt_X8_bit
theorem dX0_inputStuckAt_0 : decode cX0_inputStuckAt 0 = .ok (.aload_n 0, 1) := by decide +kernel
theorem dX0_inputStuckAt_1 : decode cX0_inputStuckAt 1 = .ok (.getfield 15, 3) := by decide +kernel
theorem dX0_inputStuckAt_4 : decode cX0_inputStuckAt 4 = .ok (.iload_n 1, 1) := by decide +kernel
theorem dX0_inputStuckAt_5 : decode cX0_inputStuckAt 5 = .ok (.invokestatic 24, 3) := by decide +kernel
theorem dX0_inputStuckAt_8 : decode cX0_inputStuckAt 8 = .ok (.iconst 1, 1) := by decide +kernel
theorem dX0_inputStuckAt_9 : decode cX0_inputStuckAt 9 = .ok (.if_icmp .ne 5, 3) := by decide +kernel
theorem dX0_inputStuckAt_12 : decode cX0_inputStuckAt 12 = .ok (.iconst 1, 1) := by decide +kernel
theorem dX0_inputStuckAt_13 : decode cX0_inputStuckAt 13 = .ok (.ireturn, 1) := by decide +kernel
theorem dX0_inputStuckAt_14 : decode cX0_inputStuckAt 14 = .ok (.aload_n 0, 1) := by decide +kernel
theorem dX0_inputStuckAt_15 : decode cX0_inputStuckAt 15 = .ok (.getfield 9, 3) := by decide +kernel
theorem dX0_inputStuckAt_18 : decode cX0_inputStuckAt 18 = .ok (.iload_n 1, 1) := by decide +kernel
theorem dX0_inputStuckAt_19 : decode cX0_inputStuckAt 19 = .ok (.invokestatic 24, 3) := by decide +kernel
theorem dX0_inputStuckAt_22 : decode cX0_inputStuckAt 22 = .ok (.iconst 1, 1) := by decide +kernel
theorem dX0_inputStuckAt_23 : decode cX0_inputStuckAt 23 = .ok (.if_icmp .ne 7, 3) := by decide +kernel
theorem dX0_inputStuckAt_26 : decode cX0_inputStuckAt 26 = .ok (.iconst 0, 1) := by decide +kernel
theorem dX0_inputStuckAt_27 : decode cX0_inputStuckAt 27 = .ok (.goto 4, 3) := by decide +kernel
theorem dX0_inputStuckAt_30 : decode cX0_inputStuckAt 30 = .ok (.iconst 2, 1) := by decide +kernel
theorem dX0_inputStuckAt_31 : decode cX0_inputStuckAt 31 = .ok (.ireturn, 1) := by decide +kernel
theorem dX0_setInput_0 : decode cX0_setInput 0 = .ok (.iconst 1, 1) := by decide +kernel
theorem dX0_setInput_1 : decode cX0_setInput 1 = .ok (.iload_n 1, 1) := by decide +kernel
theorem dX0_setInput_2 : decode cX0_setInput 2 = .ok (.ishl, 1) := by decide +kernel
theorem dX0_setInput_3 : decode cX0_setInput 3 = .ok (.istore_n 3, 1) := by decide +kernel
theorem dX0_setInput_4 : decode cX0_setInput 4 = .ok (.aload_n 0, 1) := by decide +kernel
theorem dX0_setInput_5 : decode cX0_setInput 5 = .ok (.iload_n 2, 1) := by decide +kernel
theorem dX0_setInput_6 : decode cX0_setInput 6 = .ok (.ifCond .ne 12, 3) := by decide +kernel
theorem dX0_setInput_9 : decode cX0_setInput 9 = .ok (.aload_n 0, 1) := by decide +kernel
theorem dX0_setInput_10 : decode cX0_setInput 10 = .ok (.getfield 9, 3) := by decide +kernel
theorem dX0_setInput_13 : decode cX0_setInput 13 = .ok (.iload_n 3, 1) := by decide +kernel
theorem dX0_setInput_14 : decode cX0_setInput 14 = .ok (.ior, 1) := by decide +kernel
theorem dX0_setInput_15 : decode cX0_setInput 15 = .ok (.goto 11, 3) := by decide +kernel
theorem dX0_setInput_18 : decode cX0_setInput 18 = .ok (.aload_n 0, 1) := by decide +kernel
theorem dX0_setInput_19 : decode cX0_setInput 19 = .ok (.getfield 9, 3) := by decide +kernel
theorem dX0_setInput_22 : decode cX0_setInput 22 = .ok (.iload_n 3, 1) := by decide +kernel
theorem dX0_setInput_23 : decode cX0_setInput 23 = .ok (.iconst (-1), 1) := by decide +kernel
theorem dX0_setInput_24 : decode cX0_setInput 24 = .ok (.ixor, 1) := by decide +kernel
theorem dX0_setInput_25 : decode cX0_setInput 25 = .ok (.iand, 1) := by decide +kernel
theorem dX0_setInput_26 : decode cX0_setInput 26 = .ok (.putfield 9, 3) := by decide +kernel
theorem dX0_setInput_29 : decode cX0_setInput 29 = .ok (.aload_n 0, 1) := by decide +kernel
theorem dX0_setInput_30 : decode cX0_setInput 30 = .ok (.iload_n 2, 1) := by decide +kernel
theorem dX0_setInput_31 : decode cX0_setInput 31 = .ok (.iconst 1, 1) := by decide +kernel
theorem dX0_setInput_32 : decode cX0_setInput 32 = .ok (.if_icmp .ne 12, 3) := by decide +kernel
theorem dX0_setInput_35 : decode cX0_setInput 35 = .ok (.aload_n 0, 1) := by decide +kernel
theorem dX0_setInput_36 : decode cX0_setInput 36 = .ok (.getfield 15, 3) := by decide +kernel
theorem dX0_setInput_39 : decode cX0_setInput 39 = .ok (.iload_n 3, 1) := by decide +kernel
theorem dX0_setInput_40 : decode cX0_setInput 40 = .ok (.ior, 1) := by decide +kernel
theorem dX0_setInput_41 : decode cX0_setInput 41 = .ok (.goto 11, 3) := by decide +kernel
theorem dX0_setInput_44 : decode cX0_setInput 44 = .ok (.aload_n 0, 1) := by decide +kernel
theorem dX0_setInput_45 : decode cX0_setInput 45 = .ok (.getfield 15, 3) := by decide +kernel
theorem dX0_setInput_48 : decode cX0_setInput 48 = .ok (.iload_n 3, 1) := by decide +kernel
theorem dX0_setInput_49 : decode cX0_setInput 49 = .ok (.iconst (-1), 1) := by decide +kernel
theorem dX0_setInput_50 : decode cX0_setInput 50 = .ok (.ixor, 1) := by decide +kernel
theorem dX0_setInput_51 : decode cX0_setInput 51 = .ok (.iand, 1) := by decide +kernel
theorem dX0_setInput_52 : decode cX0_setInput 52 = .ok (.putfield 15, 3) := by decide +kernel
theorem dX0_setInput_55 : decode cX0_setInput 55 = .ok (.return_, 1) := by decide +kernel
theorem dX0_valveStuckAt_0 : decode cX0_valveStuckAt 0 = .ok (.iload_n 1, 1) := by decide +kernel
theorem dX0_valveStuckAt_1 : decode cX0_valveStuckAt 1 = .ok (.ifCond .ne 10, 3) := by decide +kernel
theorem dX0_valveStuckAt_4 : decode cX0_valveStuckAt 4 = .ok (.aload_n 0, 1) := by decide +kernel
theorem dX0_valveStuckAt_5 : decode cX0_valveStuckAt 5 = .ok (.getfield 18, 3) := by decide +kernel
theorem dX0_valveStuckAt_8 : decode cX0_valveStuckAt 8 = .ok (.goto 7, 3) := by decide +kernel
theorem dX0_valveStuckAt_11 : decode cX0_valveStuckAt 11 = .ok (.aload_n 0, 1) := by decide +kernel
theorem dX0_valveStuckAt_12 : decode cX0_valveStuckAt 12 = .ok (.getfield 21, 3) := by decide +kernel
theorem dX0_valveStuckAt_15 : decode cX0_valveStuckAt 15 = .ok (.ireturn, 1) := by decide +kernel
theorem dX0_setValve_0 : decode cX0_setValve 0 = .ok (.iload_n 1, 1) := by decide +kernel
theorem dX0_setValve_1 : decode cX0_setValve 1 = .ok (.ifCond .ne 11, 3) := by decide +kernel
theorem dX0_setValve_4 : decode cX0_setValve 4 = .ok (.aload_n 0, 1) := by decide +kernel
theorem dX0_setValve_5 : decode cX0_setValve 5 = .ok (.iload_n 2, 1) := by decide +kernel
theorem dX0_setValve_6 : decode cX0_setValve 6 = .ok (.putfield 18, 3) := by decide +kernel
theorem dX0_setValve_9 : decode cX0_setValve 9 = .ok (.goto 8, 3) := by decide +kernel
theorem dX0_setValve_12 : decode cX0_setValve 12 = .ok (.aload_n 0, 1) := by decide +kernel
theorem dX0_setValve_13 : decode cX0_setValve 13 = .ok (.iload_n 2, 1) := by decide +kernel
theorem dX0_setValve_14 : decode cX0_setValve 14 = .ok (.putfield 21, 3) := by decide +kernel
theorem dX0_setValve_17 : decode cX0_setValve 17 = .ok (.return_, 1) := by decide +kernel
theorem dX0_valvesStuck_0 : decode cX0_valvesStuck 0 = .ok (.aload_n 0, 1) := by decide +kernel
theorem dX0_valvesStuck_1 : decode cX0_valvesStuck 1 = .ok (.getfield 18, 3) := by decide +kernel
theorem dX0_valvesStuck_4 : decode cX0_valvesStuck 4 = .ok (.iconst 2, 1) := by decide +kernel
theorem dX0_valvesStuck_5 : decode cX0_valvesStuck 5 = .ok (.if_icmp .ne 7, 3) := by decide +kernel
theorem dX0_valvesStuck_8 : decode cX0_valvesStuck 8 = .ok (.iconst 0, 1) := by decide +kernel
theorem dX0_valvesStuck_9 : decode cX0_valvesStuck 9 = .ok (.goto 4, 3) := by decide +kernel
theorem dX0_valvesStuck_12 : decode cX0_valvesStuck 12 = .ok (.iconst 1, 1) := by decide +kernel
theorem dX0_valvesStuck_13 : decode cX0_valvesStuck 13 = .ok (.aload_n 0, 1) := by decide +kernel
theorem dX0_valvesStuck_14 : decode cX0_valvesStuck 14 = .ok (.getfield 21, 3) := by decide +kernel
theorem dX0_valvesStuck_17 : decode cX0_valvesStuck 17 = .ok (.iconst 2, 1) := by decide +kernel
theorem dX0_valvesStuck_18 : decode cX0_valvesStuck 18 = .ok (.if_icmp .ne 7, 3) := by decide +kernel
theorem dX0_valvesStuck_21 : decode cX0_valvesStuck 21 = .ok (.iconst 0, 1) := by decide +kernel
theorem dX0_valvesStuck_22 : decode cX0_valvesStuck 22 = .ok (.goto 4, 3) := by decide +kernel
theorem dX0_valvesStuck_25 : decode cX0_valvesStuck 25 = .ok (.iconst 1, 1) := by decide +kernel
theorem dX0_valvesStuck_26 : decode cX0_valvesStuck 26 = .ok (.iadd, 1) := by decide +kernel
theorem dX0_valvesStuck_27 : decode cX0_valvesStuck 27 = .ok (.ireturn, 1) := by decide +kernel
theorem dX0_seenOf_0 : decode cX0_seenOf 0 = .ok (.iload_n 1, 1) := by decide +kernel
theorem dX0_seenOf_1 : decode cX0_seenOf 1 = .ok (.aload_n 0, 1) := by decide +kernel
theorem dX0_seenOf_2 : decode cX0_seenOf 2 = .ok (.getfield 15, 3) := by decide +kernel
theorem dX0_seenOf_5 : decode cX0_seenOf 5 = .ok (.ior, 1) := by decide +kernel
theorem dX0_seenOf_6 : decode cX0_seenOf 6 = .ok (.aload_n 0, 1) := by decide +kernel
theorem dX0_seenOf_7 : decode cX0_seenOf 7 = .ok (.getfield 9, 3) := by decide +kernel
theorem dX0_seenOf_10 : decode cX0_seenOf 10 = .ok (.iconst (-1), 1) := by decide +kernel
theorem dX0_seenOf_11 : decode cX0_seenOf 11 = .ok (.ixor, 1) := by decide +kernel
theorem dX0_seenOf_12 : decode cX0_seenOf 12 = .ok (.iand, 1) := by decide +kernel
theorem dX0_seenOf_13 : decode cX0_seenOf 13 = .ok (.ireturn, 1) := by decide +kernel
set_option maxRecDepth 20000 in
theorem ggX0_valvesObey_X0_valveIs : GoodIn wsX0_valvesObey wsX0_valveIs := goodIn_r _ [6] (by decide +kernel) (by decide +kernel)
set_option maxRecDepth 20000 in
theorem gX0_valvesObey_X0_valveIs : GoodIn wsX0_valvesObey (va_wsS RX0 28 yX0_valveIs wsX0_valveIs) := goodIn_app (goodIn_of _ (by decide +kernel)) ggX0_valvesObey_X0_valveIs
theorem dX0_valvesObey_0 : decode cX0_valvesObey 0 = .ok (.aload_n 0, 1) := by decide +kernel
theorem dX0_valvesObey_1 : decode cX0_valvesObey 1 = .ok (.getfield 18, 3) := by decide +kernel
theorem dX0_valvesObey_4 : decode cX0_valvesObey 4 = .ok (.iload_n 1, 1) := by decide +kernel
theorem dX0_valvesObey_5 : decode cX0_valvesObey 5 = .ok (.invokestatic 28, 3) := by decide +kernel
theorem dX0_valvesObey_8 : decode cX0_valvesObey 8 = .ok (.iload_n 1, 1) := by decide +kernel
theorem dX0_valvesObey_9 : decode cX0_valvesObey 9 = .ok (.if_icmp .ne 19, 3) := by decide +kernel
theorem dX0_valvesObey_12 : decode cX0_valvesObey 12 = .ok (.aload_n 0, 1) := by decide +kernel
theorem dX0_valvesObey_13 : decode cX0_valvesObey 13 = .ok (.getfield 21, 3) := by decide +kernel
theorem dX0_valvesObey_16 : decode cX0_valvesObey 16 = .ok (.iload_n 1, 1) := by decide +kernel
theorem dX0_valvesObey_17 : decode cX0_valvesObey 17 = .ok (.invokestatic 28, 3) := by decide +kernel
theorem dX0_valvesObey_20 : decode cX0_valvesObey 20 = .ok (.iload_n 1, 1) := by decide +kernel
theorem dX0_valvesObey_21 : decode cX0_valvesObey 21 = .ok (.if_icmp .ne 7, 3) := by decide +kernel
theorem dX0_valvesObey_24 : decode cX0_valvesObey 24 = .ok (.iconst 1, 1) := by decide +kernel
theorem dX0_valvesObey_25 : decode cX0_valvesObey 25 = .ok (.goto 4, 3) := by decide +kernel
theorem dX0_valvesObey_28 : decode cX0_valvesObey 28 = .ok (.iconst 0, 1) := by decide +kernel
theorem dX0_valvesObey_29 : decode cX0_valvesObey 29 = .ok (.ireturn, 1) := by decide +kernel
set_option maxRecDepth 20000 in
theorem ggX0_bothOpen_X0_valveIs : GoodIn wsX0_bothOpen wsX0_valveIs := goodIn_r _ [6] (by decide +kernel) (by decide +kernel)
set_option maxRecDepth 20000 in
theorem gX0_bothOpen_X0_valveIs : GoodIn wsX0_bothOpen (va_wsS RX0 28 yX0_valveIs wsX0_valveIs) := goodIn_app (goodIn_of _ (by decide +kernel)) ggX0_bothOpen_X0_valveIs
theorem dX0_bothOpen_0 : decode cX0_bothOpen 0 = .ok (.aload_n 0, 1) := by decide +kernel
theorem dX0_bothOpen_1 : decode cX0_bothOpen 1 = .ok (.getfield 18, 3) := by decide +kernel
theorem dX0_bothOpen_4 : decode cX0_bothOpen 4 = .ok (.iload_n 1, 1) := by decide +kernel
theorem dX0_bothOpen_5 : decode cX0_bothOpen 5 = .ok (.invokestatic 28, 3) := by decide +kernel
theorem dX0_bothOpen_8 : decode cX0_bothOpen 8 = .ok (.iconst 1, 1) := by decide +kernel
theorem dX0_bothOpen_9 : decode cX0_bothOpen 9 = .ok (.if_icmp .ne 19, 3) := by decide +kernel
theorem dX0_bothOpen_12 : decode cX0_bothOpen 12 = .ok (.aload_n 0, 1) := by decide +kernel
theorem dX0_bothOpen_13 : decode cX0_bothOpen 13 = .ok (.getfield 21, 3) := by decide +kernel
theorem dX0_bothOpen_16 : decode cX0_bothOpen 16 = .ok (.iload_n 1, 1) := by decide +kernel
theorem dX0_bothOpen_17 : decode cX0_bothOpen 17 = .ok (.invokestatic 28, 3) := by decide +kernel
theorem dX0_bothOpen_20 : decode cX0_bothOpen 20 = .ok (.iconst 1, 1) := by decide +kernel
theorem dX0_bothOpen_21 : decode cX0_bothOpen 21 = .ok (.if_icmp .ne 7, 3) := by decide +kernel
theorem dX0_bothOpen_24 : decode cX0_bothOpen 24 = .ok (.iconst 1, 1) := by decide +kernel
theorem dX0_bothOpen_25 : decode cX0_bothOpen 25 = .ok (.goto 4, 3) := by decide +kernel
theorem dX0_bothOpen_28 : decode cX0_bothOpen 28 = .ok (.iconst 0, 1) := by decide +kernel
theorem dX0_bothOpen_29 : decode cX0_bothOpen 29 = .ok (.ireturn, 1) := by decide +kernel
theorem dX0_valveIs_0 : decode cX0_valveIs 0 = .ok (.iload_n 0, 1) := by decide +kernel
theorem dX0_valveIs_1 : decode cX0_valveIs 1 = .ok (.iconst 2, 1) := by decide +kernel
theorem dX0_valveIs_2 : decode cX0_valveIs 2 = .ok (.if_icmp .ne 7, 3) := by decide +kernel
theorem dX0_valveIs_5 : decode cX0_valveIs 5 = .ok (.iload_n 1, 1) := by decide +kernel
theorem dX0_valveIs_6 : decode cX0_valveIs 6 = .ok (.goto 4, 3) := by decide +kernel
theorem dX0_valveIs_9 : decode cX0_valveIs 9 = .ok (.iload_n 0, 1) := by decide +kernel
theorem dX0_valveIs_10 : decode cX0_valveIs 10 = .ok (.ireturn, 1) := by decide +kernel
theorem dX1_init_0 : decode cX1_init 0 = .ok (.aload_n 0, 1) := by decide +kernel
theorem dX1_init_1 : decode cX1_init 1 = .ok (.invokespecial 3, 3) := by decide +kernel
theorem dX1_init_4 : decode cX1_init 4 = .ok (.aload_n 0, 1) := by decide +kernel
theorem dX1_init_5 : decode cX1_init 5 = .ok (.bipush 90, 2) := by decide +kernel
theorem dX1_init_7 : decode cX1_init 7 = .ok (.newarray .int, 2) := by decide +kernel
theorem dX1_init_9 : decode cX1_init 9 = .ok (.putfield 9, 3) := by decide +kernel
theorem dX1_init_12 : decode cX1_init 12 = .ok (.aload_n 0, 1) := by decide +kernel
theorem dX1_init_13 : decode cX1_init 13 = .ok (.iconst 5, 1) := by decide +kernel
theorem dX1_init_14 : decode cX1_init 14 = .ok (.newarray .int, 2) := by decide +kernel
theorem dX1_init_16 : decode cX1_init 16 = .ok (.putfield 15, 3) := by decide +kernel
theorem dX1_init_19 : decode cX1_init 19 = .ok (.aload_n 0, 1) := by decide +kernel
theorem dX1_init_20 : decode cX1_init 20 = .ok (.iconst 5, 1) := by decide +kernel
theorem dX1_init_21 : decode cX1_init 21 = .ok (.newarray .int, 2) := by decide +kernel
theorem dX1_init_23 : decode cX1_init 23 = .ok (.putfield 18, 3) := by decide +kernel
theorem dX1_init_26 : decode cX1_init 26 = .ok (.aload_n 0, 1) := by decide +kernel
theorem dX1_init_27 : decode cX1_init 27 = .ok (.iconst 0, 1) := by decide +kernel
theorem dX1_init_28 : decode cX1_init 28 = .ok (.putfield 21, 3) := by decide +kernel
theorem dX1_init_31 : decode cX1_init 31 = .ok (.aload_n 0, 1) := by decide +kernel
theorem dX1_init_32 : decode cX1_init 32 = .ok (.iconst 0, 1) := by decide +kernel
theorem dX1_init_33 : decode cX1_init 33 = .ok (.putfield 25, 3) := by decide +kernel
theorem dX1_init_36 : decode cX1_init 36 = .ok (.aload_n 0, 1) := by decide +kernel
theorem dX1_init_37 : decode cX1_init 37 = .ok (.iconst 0, 1) := by decide +kernel
theorem dX1_init_38 : decode cX1_init 38 = .ok (.putfield 28, 3) := by decide +kernel
theorem dX1_init_41 : decode cX1_init 41 = .ok (.aload_n 0, 1) := by decide +kernel
theorem dX1_init_42 : decode cX1_init 42 = .ok (.iconst 0, 1) := by decide +kernel
theorem dX1_init_43 : decode cX1_init 43 = .ok (.putfield 31, 3) := by decide +kernel
theorem dX1_init_46 : decode cX1_init 46 = .ok (.return_, 1) := by decide +kernel
set_option maxRecDepth 20000 in
theorem ggX1_clear_J7_fill_53178 : GoodIn wsX1_clear wsJ7_fill_53178 := goodIn_r _ [11] (by decide +kernel) (by decide +kernel)
set_option maxRecDepth 20000 in
theorem gX1_clear_J7_fill_53178 : GoodIn wsX1_clear (va_wsS RX1 34 yJ7_fill_53178 wsJ7_fill_53178) := goodIn_app (goodIn_of _ (by decide +kernel)) ggX1_clear_J7_fill_53178
theorem dX1_clear_0 : decode cX1_clear 0 = .ok (.aload_n 0, 1) := by decide +kernel
theorem dX1_clear_1 : decode cX1_clear 1 = .ok (.getfield 9, 3) := by decide +kernel
theorem dX1_clear_4 : decode cX1_clear 4 = .ok (.iconst 0, 1) := by decide +kernel
theorem dX1_clear_5 : decode cX1_clear 5 = .ok (.invokestatic 34, 3) := by decide +kernel
theorem dX1_clear_8 : decode cX1_clear 8 = .ok (.aload_n 0, 1) := by decide +kernel
theorem dX1_clear_9 : decode cX1_clear 9 = .ok (.getfield 15, 3) := by decide +kernel
theorem dX1_clear_12 : decode cX1_clear 12 = .ok (.iconst 0, 1) := by decide +kernel
theorem dX1_clear_13 : decode cX1_clear 13 = .ok (.invokestatic 34, 3) := by decide +kernel
theorem dX1_clear_16 : decode cX1_clear 16 = .ok (.aload_n 0, 1) := by decide +kernel
theorem dX1_clear_17 : decode cX1_clear 17 = .ok (.getfield 18, 3) := by decide +kernel
theorem dX1_clear_20 : decode cX1_clear 20 = .ok (.iconst 0, 1) := by decide +kernel
theorem dX1_clear_21 : decode cX1_clear 21 = .ok (.invokestatic 34, 3) := by decide +kernel
theorem dX1_clear_24 : decode cX1_clear 24 = .ok (.aload_n 0, 1) := by decide +kernel
theorem dX1_clear_25 : decode cX1_clear 25 = .ok (.iconst 0, 1) := by decide +kernel
theorem dX1_clear_26 : decode cX1_clear 26 = .ok (.putfield 21, 3) := by decide +kernel
theorem dX1_clear_29 : decode cX1_clear 29 = .ok (.aload_n 0, 1) := by decide +kernel
theorem dX1_clear_30 : decode cX1_clear 30 = .ok (.iconst 0, 1) := by decide +kernel
theorem dX1_clear_31 : decode cX1_clear 31 = .ok (.putfield 25, 3) := by decide +kernel
theorem dX1_clear_34 : decode cX1_clear 34 = .ok (.aload_n 0, 1) := by decide +kernel
theorem dX1_clear_35 : decode cX1_clear 35 = .ok (.iconst 0, 1) := by decide +kernel
theorem dX1_clear_36 : decode cX1_clear 36 = .ok (.putfield 28, 3) := by decide +kernel
theorem dX1_clear_39 : decode cX1_clear 39 = .ok (.aload_n 0, 1) := by decide +kernel
theorem dX1_clear_40 : decode cX1_clear 40 = .ok (.iconst 0, 1) := by decide +kernel
theorem dX1_clear_41 : decode cX1_clear 41 = .ok (.putfield 31, 3) := by decide +kernel
theorem dX1_clear_44 : decode cX1_clear 44 = .ok (.return_, 1) := by decide +kernel
set_option maxRecDepth 20000 in
theorem ggX1_addTick_X8_within : GoodIn wsX1_addTick wsX8_within := goodIn_r _ [5] (by decide +kernel) (by decide +kernel)
set_option maxRecDepth 20000 in
theorem gX1_addTick_X8_within_n40 : GoodIn wsX1_addTick (wsX8_within) := ggX1_addTick_X8_within
theorem dX1_addTick_0 : decode cX1_addTick 0 = .ok (.aload_n 0, 1) := by decide +kernel
theorem dX1_addTick_1 : decode cX1_addTick 1 = .ok (.dup, 1) := by decide +kernel
theorem dX1_addTick_2 : decode cX1_addTick 2 = .ok (.getfield 31, 3) := by decide +kernel
theorem dX1_addTick_5 : decode cX1_addTick 5 = .ok (.iconst 1, 1) := by decide +kernel
theorem dX1_addTick_6 : decode cX1_addTick 6 = .ok (.iadd, 1) := by decide +kernel
theorem dX1_addTick_7 : decode cX1_addTick 7 = .ok (.putfield 31, 3) := by decide +kernel
theorem dX1_addTick_10 : decode cX1_addTick 10 = .ok (.iload_n 1, 1) := by decide +kernel
theorem dX1_addTick_11 : decode cX1_addTick 11 = .ok (.iconst 0, 1) := by decide +kernel
theorem dX1_addTick_12 : decode cX1_addTick 12 = .ok (.iconst 4, 1) := by decide +kernel
theorem dX1_addTick_13 : decode cX1_addTick 13 = .ok (.invokestatic 40, 3) := by decide +kernel
theorem dX1_addTick_16 : decode cX1_addTick 16 = .ok (.ifCond .eq 15, 3) := by decide +kernel
theorem dX1_addTick_19 : decode cX1_addTick 19 = .ok (.aload_n 0, 1) := by decide +kernel
theorem dX1_addTick_20 : decode cX1_addTick 20 = .ok (.getfield 18, 3) := by decide +kernel
theorem dX1_addTick_23 : decode cX1_addTick 23 = .ok (.iload_n 1, 1) := by decide +kernel
theorem dX1_addTick_24 : decode cX1_addTick 24 = .ok (.dup2, 1) := by decide +kernel
theorem dX1_addTick_25 : decode cX1_addTick 25 = .ok (.iaload, 1) := by decide +kernel
theorem dX1_addTick_26 : decode cX1_addTick 26 = .ok (.iconst 1, 1) := by decide +kernel
theorem dX1_addTick_27 : decode cX1_addTick 27 = .ok (.iload_n 2, 1) := by decide +kernel
theorem dX1_addTick_28 : decode cX1_addTick 28 = .ok (.ishl, 1) := by decide +kernel
theorem dX1_addTick_29 : decode cX1_addTick 29 = .ok (.ior, 1) := by decide +kernel
theorem dX1_addTick_30 : decode cX1_addTick 30 = .ok (.iastore, 1) := by decide +kernel
theorem dX1_addTick_31 : decode cX1_addTick 31 = .ok (.return_, 1) := by decide +kernel
set_option maxRecDepth 20000 in
theorem ggX1_addLock_X8_within : GoodIn wsX1_addLock wsX8_within := goodIn_r _ [8] (by decide +kernel) (by decide +kernel)
set_option maxRecDepth 20000 in
theorem gX1_addLock_X8_within_n40 : GoodIn wsX1_addLock (wsX8_within) := ggX1_addLock_X8_within
set_option maxRecDepth 20000 in
theorem ggX1_addLock_X1_locksBy : GoodIn wsX1_addLock wsX1_locksBy := goodIn_r _ [13, 14, 15, 16, 12, 17, 3, 6, 7, 8, 18, 19, 20, 21, 22, 23, 24] (by decide +kernel) (by decide +kernel)
set_option maxRecDepth 20000 in
theorem gX1_addLock_X1_locksBy : GoodIn wsX1_addLock (wsV RX1 44 RX1 yX1_locksBy wsX1_locksBy) := goodIn_app (goodIn_of _ (by decide +kernel)) ggX1_addLock_X1_locksBy
theorem dX1_addLock_0 : decode cX1_addLock 0 = .ok (.iload_n 1, 1) := by decide +kernel
theorem dX1_addLock_1 : decode cX1_addLock 1 = .ok (.iconst 1, 1) := by decide +kernel
theorem dX1_addLock_2 : decode cX1_addLock 2 = .ok (.iconst 5, 1) := by decide +kernel
theorem dX1_addLock_3 : decode cX1_addLock 3 = .ok (.invokestatic 40, 3) := by decide +kernel
theorem dX1_addLock_6 : decode cX1_addLock 6 = .ok (.ifCond .eq 13, 3) := by decide +kernel
theorem dX1_addLock_9 : decode cX1_addLock 9 = .ok (.iload_n 2, 1) := by decide +kernel
theorem dX1_addLock_10 : decode cX1_addLock 10 = .ok (.iconst 0, 1) := by decide +kernel
theorem dX1_addLock_11 : decode cX1_addLock 11 = .ok (.bipush 17, 2) := by decide +kernel
theorem dX1_addLock_13 : decode cX1_addLock 13 = .ok (.invokestatic 40, 3) := by decide +kernel
theorem dX1_addLock_16 : decode cX1_addLock 16 = .ok (.ifCond .ne 4, 3) := by decide +kernel
theorem dX1_addLock_19 : decode cX1_addLock 19 = .ok (.return_, 1) := by decide +kernel
theorem dX1_addLock_20 : decode cX1_addLock 20 = .ok (.aload_n 0, 1) := by decide +kernel
theorem dX1_addLock_21 : decode cX1_addLock 21 = .ok (.iload_n 1, 1) := by decide +kernel
theorem dX1_addLock_22 : decode cX1_addLock 22 = .ok (.invokevirtual 44, 3) := by decide +kernel
theorem dX1_addLock_25 : decode cX1_addLock 25 = .ok (.ifCond .ne 31, 3) := by decide +kernel
theorem dX1_addLock_28 : decode cX1_addLock 28 = .ok (.aload_n 0, 1) := by decide +kernel
theorem dX1_addLock_29 : decode cX1_addLock 29 = .ok (.getfield 21, 3) := by decide +kernel
theorem dX1_addLock_32 : decode cX1_addLock 32 = .ok (.iconst 5, 1) := by decide +kernel
theorem dX1_addLock_33 : decode cX1_addLock 33 = .ok (.if_icmp .ge 23, 3) := by decide +kernel
theorem dX1_addLock_36 : decode cX1_addLock 36 = .ok (.aload_n 0, 1) := by decide +kernel
theorem dX1_addLock_37 : decode cX1_addLock 37 = .ok (.getfield 15, 3) := by decide +kernel
theorem dX1_addLock_40 : decode cX1_addLock 40 = .ok (.aload_n 0, 1) := by decide +kernel
theorem dX1_addLock_41 : decode cX1_addLock 41 = .ok (.getfield 21, 3) := by decide +kernel
theorem dX1_addLock_44 : decode cX1_addLock 44 = .ok (.iload_n 1, 1) := by decide +kernel
theorem dX1_addLock_45 : decode cX1_addLock 45 = .ok (.iastore, 1) := by decide +kernel
theorem dX1_addLock_46 : decode cX1_addLock 46 = .ok (.aload_n 0, 1) := by decide +kernel
theorem dX1_addLock_47 : decode cX1_addLock 47 = .ok (.dup, 1) := by decide +kernel
theorem dX1_addLock_48 : decode cX1_addLock 48 = .ok (.getfield 21, 3) := by decide +kernel
theorem dX1_addLock_51 : decode cX1_addLock 51 = .ok (.iconst 1, 1) := by decide +kernel
theorem dX1_addLock_52 : decode cX1_addLock 52 = .ok (.iadd, 1) := by decide +kernel
theorem dX1_addLock_53 : decode cX1_addLock 53 = .ok (.putfield 21, 3) := by decide +kernel
theorem dX1_addLock_56 : decode cX1_addLock 56 = .ok (.aload_n 0, 1) := by decide +kernel
theorem dX1_addLock_57 : decode cX1_addLock 57 = .ok (.getfield 9, 3) := by decide +kernel
theorem dX1_addLock_60 : decode cX1_addLock 60 = .ok (.iload_n 1, 1) := by decide +kernel
theorem dX1_addLock_61 : decode cX1_addLock 61 = .ok (.iconst 1, 1) := by decide +kernel
theorem dX1_addLock_62 : decode cX1_addLock 62 = .ok (.isub, 1) := by decide +kernel
theorem dX1_addLock_63 : decode cX1_addLock 63 = .ok (.bipush 18, 2) := by decide +kernel
theorem dX1_addLock_65 : decode cX1_addLock 65 = .ok (.imul, 1) := by decide +kernel
theorem dX1_addLock_66 : decode cX1_addLock 66 = .ok (.iload_n 2, 1) := by decide +kernel
theorem dX1_addLock_67 : decode cX1_addLock 67 = .ok (.iadd, 1) := by decide +kernel
theorem dX1_addLock_68 : decode cX1_addLock 68 = .ok (.dup2, 1) := by decide +kernel
theorem dX1_addLock_69 : decode cX1_addLock 69 = .ok (.iaload, 1) := by decide +kernel
theorem dX1_addLock_70 : decode cX1_addLock 70 = .ok (.iconst 1, 1) := by decide +kernel
theorem dX1_addLock_71 : decode cX1_addLock 71 = .ok (.iadd, 1) := by decide +kernel
theorem dX1_addLock_72 : decode cX1_addLock 72 = .ok (.iastore, 1) := by decide +kernel
theorem dX1_addLock_73 : decode cX1_addLock 73 = .ok (.aload_n 0, 1) := by decide +kernel
theorem dX1_addLock_74 : decode cX1_addLock 74 = .ok (.dup, 1) := by decide +kernel
theorem dX1_addLock_75 : decode cX1_addLock 75 = .ok (.getfield 25, 3) := by decide +kernel
theorem dX1_addLock_78 : decode cX1_addLock 78 = .ok (.iconst 1, 1) := by decide +kernel
theorem dX1_addLock_79 : decode cX1_addLock 79 = .ok (.iload_n 2, 1) := by decide +kernel
theorem dX1_addLock_80 : decode cX1_addLock 80 = .ok (.ishl, 1) := by decide +kernel
theorem dX1_addLock_81 : decode cX1_addLock 81 = .ok (.ior, 1) := by decide +kernel
theorem dX1_addLock_82 : decode cX1_addLock 82 = .ok (.putfield 25, 3) := by decide +kernel
theorem dX1_addLock_85 : decode cX1_addLock 85 = .ok (.aload_n 0, 1) := by decide +kernel
theorem dX1_addLock_86 : decode cX1_addLock 86 = .ok (.dup, 1) := by decide +kernel
theorem dX1_addLock_87 : decode cX1_addLock 87 = .ok (.getfield 28, 3) := by decide +kernel
theorem dX1_addLock_90 : decode cX1_addLock 90 = .ok (.iconst 1, 1) := by decide +kernel
theorem dX1_addLock_91 : decode cX1_addLock 91 = .ok (.iadd, 1) := by decide +kernel
theorem dX1_addLock_92 : decode cX1_addLock 92 = .ok (.putfield 28, 3) := by decide +kernel
theorem dX1_addLock_95 : decode cX1_addLock 95 = .ok (.return_, 1) := by decide +kernel
set_option maxRecDepth 20000 in
theorem ggX1_locksAt_X8_within : GoodIn wsX1_locksAt wsX8_within := goodIn_r _ [4] (by decide +kernel) (by decide +kernel)
set_option maxRecDepth 20000 in
theorem gX1_locksAt_X8_within_n40 : GoodIn wsX1_locksAt (wsX8_within) := ggX1_locksAt_X8_within
theorem dX1_locksAt_0 : decode cX1_locksAt 0 = .ok (.iload_n 1, 1) := by decide +kernel
theorem dX1_locksAt_1 : decode cX1_locksAt 1 = .ok (.iconst 1, 1) := by decide +kernel
theorem dX1_locksAt_2 : decode cX1_locksAt 2 = .ok (.iconst 5, 1) := by decide +kernel
theorem dX1_locksAt_3 : decode cX1_locksAt 3 = .ok (.invokestatic 40, 3) := by decide +kernel
theorem dX1_locksAt_6 : decode cX1_locksAt 6 = .ok (.ifCond .eq 13, 3) := by decide +kernel
theorem dX1_locksAt_9 : decode cX1_locksAt 9 = .ok (.iload_n 2, 1) := by decide +kernel
theorem dX1_locksAt_10 : decode cX1_locksAt 10 = .ok (.iconst 0, 1) := by decide +kernel
theorem dX1_locksAt_11 : decode cX1_locksAt 11 = .ok (.bipush 17, 2) := by decide +kernel
theorem dX1_locksAt_13 : decode cX1_locksAt 13 = .ok (.invokestatic 40, 3) := by decide +kernel
theorem dX1_locksAt_16 : decode cX1_locksAt 16 = .ok (.ifCond .ne 5, 3) := by decide +kernel
theorem dX1_locksAt_19 : decode cX1_locksAt 19 = .ok (.iconst 0, 1) := by decide +kernel
theorem dX1_locksAt_20 : decode cX1_locksAt 20 = .ok (.ireturn, 1) := by decide +kernel
theorem dX1_locksAt_21 : decode cX1_locksAt 21 = .ok (.aload_n 0, 1) := by decide +kernel
theorem dX1_locksAt_22 : decode cX1_locksAt 22 = .ok (.getfield 9, 3) := by decide +kernel
theorem dX1_locksAt_25 : decode cX1_locksAt 25 = .ok (.iload_n 1, 1) := by decide +kernel
theorem dX1_locksAt_26 : decode cX1_locksAt 26 = .ok (.iconst 1, 1) := by decide +kernel
theorem dX1_locksAt_27 : decode cX1_locksAt 27 = .ok (.isub, 1) := by decide +kernel
theorem dX1_locksAt_28 : decode cX1_locksAt 28 = .ok (.bipush 18, 2) := by decide +kernel
theorem dX1_locksAt_30 : decode cX1_locksAt 30 = .ok (.imul, 1) := by decide +kernel
theorem dX1_locksAt_31 : decode cX1_locksAt 31 = .ok (.iload_n 2, 1) := by decide +kernel
theorem dX1_locksAt_32 : decode cX1_locksAt 32 = .ok (.iadd, 1) := by decide +kernel
theorem dX1_locksAt_33 : decode cX1_locksAt 33 = .ok (.iaload, 1) := by decide +kernel
theorem dX1_locksAt_34 : decode cX1_locksAt 34 = .ok (.ireturn, 1) := by decide +kernel
set_option maxRecDepth 20000 in
theorem ggX1_locksBy_X1_locksAt : GoodIn wsX1_locksBy wsX1_locksAt := goodIn_r _ [5, 6, 7, 8, 9, 10, 11, 12, 13, 14, 15, 16] (by decide +kernel) (by decide +kernel)
set_option maxRecDepth 20000 in
theorem gX1_locksBy_X1_locksAt : GoodIn wsX1_locksBy (wsV RX1 48 RX1 yX1_locksAt wsX1_locksAt) := goodIn_app (goodIn_of _ (by decide +kernel)) ggX1_locksBy_X1_locksAt
theorem dX1_locksBy_0 : decode cX1_locksBy 0 = .ok (.iconst 0, 1) := by decide +kernel
theorem dX1_locksBy_1 : decode cX1_locksBy 1 = .ok (.istore_n 2, 1) := by decide +kernel
theorem dX1_locksBy_2 : decode cX1_locksBy 2 = .ok (.iconst 0, 1) := by decide +kernel
theorem dX1_locksBy_3 : decode cX1_locksBy 3 = .ok (.istore_n 3, 1) := by decide +kernel
theorem dX1_locksBy_4 : decode cX1_locksBy 4 = .ok (.iload_n 3, 1) := by decide +kernel
theorem dX1_locksBy_5 : decode cX1_locksBy 5 = .ok (.bipush 18, 2) := by decide +kernel
theorem dX1_locksBy_7 : decode cX1_locksBy 7 = .ok (.if_icmp .ge 18, 3) := by decide +kernel
theorem dX1_locksBy_10 : decode cX1_locksBy 10 = .ok (.iload_n 2, 1) := by decide +kernel
theorem dX1_locksBy_11 : decode cX1_locksBy 11 = .ok (.aload_n 0, 1) := by decide +kernel
theorem dX1_locksBy_12 : decode cX1_locksBy 12 = .ok (.iload_n 1, 1) := by decide +kernel
theorem dX1_locksBy_13 : decode cX1_locksBy 13 = .ok (.iload_n 3, 1) := by decide +kernel
theorem dX1_locksBy_14 : decode cX1_locksBy 14 = .ok (.invokevirtual 48, 3) := by decide +kernel
theorem dX1_locksBy_17 : decode cX1_locksBy 17 = .ok (.iadd, 1) := by decide +kernel
theorem dX1_locksBy_18 : decode cX1_locksBy 18 = .ok (.istore_n 2, 1) := by decide +kernel
theorem dX1_locksBy_19 : decode cX1_locksBy 19 = .ok (.iinc 3 1, 3) := by decide +kernel
theorem dX1_locksBy_22 : decode cX1_locksBy 22 = .ok (.goto (-18), 3) := by decide +kernel
theorem dX1_locksBy_25 : decode cX1_locksBy 25 = .ok (.iload_n 2, 1) := by decide +kernel
theorem dX1_locksBy_26 : decode cX1_locksBy 26 = .ok (.ireturn, 1) := by decide +kernel
theorem dX1_causeInOrder_0 : decode cX1_causeInOrder 0 = .ok (.iload_n 1, 1) := by decide +kernel
theorem dX1_causeInOrder_1 : decode cX1_causeInOrder 1 = .ok (.ifCond .lt 25, 3) := by decide +kernel
theorem dX1_causeInOrder_4 : decode cX1_causeInOrder 4 = .ok (.iload_n 1, 1) := by decide +kernel
theorem dX1_causeInOrder_5 : decode cX1_causeInOrder 5 = .ok (.aload_n 0, 1) := by decide +kernel
theorem dX1_causeInOrder_6 : decode cX1_causeInOrder 6 = .ok (.getfield 21, 3) := by decide +kernel
theorem dX1_causeInOrder_9 : decode cX1_causeInOrder 9 = .ok (.if_icmp .ge 17, 3) := by decide +kernel
theorem dX1_causeInOrder_12 : decode cX1_causeInOrder 12 = .ok (.iload_n 1, 1) := by decide +kernel
theorem dX1_causeInOrder_13 : decode cX1_causeInOrder 13 = .ok (.iconst 5, 1) := by decide +kernel
theorem dX1_causeInOrder_14 : decode cX1_causeInOrder 14 = .ok (.if_icmp .ge 12, 3) := by decide +kernel
theorem dX1_causeInOrder_17 : decode cX1_causeInOrder 17 = .ok (.aload_n 0, 1) := by decide +kernel
theorem dX1_causeInOrder_18 : decode cX1_causeInOrder 18 = .ok (.getfield 15, 3) := by decide +kernel
theorem dX1_causeInOrder_21 : decode cX1_causeInOrder 21 = .ok (.iload_n 1, 1) := by decide +kernel
theorem dX1_causeInOrder_22 : decode cX1_causeInOrder 22 = .ok (.iaload, 1) := by decide +kernel
theorem dX1_causeInOrder_23 : decode cX1_causeInOrder 23 = .ok (.goto 5, 3) := by decide +kernel
theorem dX1_causeInOrder_26 : decode cX1_causeInOrder 26 = .ok (.bipush (-9), 2) := by decide +kernel
theorem dX1_causeInOrder_28 : decode cX1_causeInOrder 28 = .ok (.ireturn, 1) := by decide +kernel
set_option maxRecDepth 20000 in
theorem ggX1_modesBehind_X8_within : GoodIn wsX1_modesBehind wsX8_within := goodIn_r _ [4] (by decide +kernel) (by decide +kernel)
set_option maxRecDepth 20000 in
theorem gX1_modesBehind_X8_within_n40 : GoodIn wsX1_modesBehind (wsX8_within) := ggX1_modesBehind_X8_within
theorem dX1_modesBehind_0 : decode cX1_modesBehind 0 = .ok (.iload_n 1, 1) := by decide +kernel
theorem dX1_modesBehind_1 : decode cX1_modesBehind 1 = .ok (.iconst 0, 1) := by decide +kernel
theorem dX1_modesBehind_2 : decode cX1_modesBehind 2 = .ok (.iconst 4, 1) := by decide +kernel
theorem dX1_modesBehind_3 : decode cX1_modesBehind 3 = .ok (.invokestatic 40, 3) := by decide +kernel
theorem dX1_modesBehind_6 : decode cX1_modesBehind 6 = .ok (.ifCond .eq 12, 3) := by decide +kernel
theorem dX1_modesBehind_9 : decode cX1_modesBehind 9 = .ok (.aload_n 0, 1) := by decide +kernel
theorem dX1_modesBehind_10 : decode cX1_modesBehind 10 = .ok (.getfield 18, 3) := by decide +kernel
theorem dX1_modesBehind_13 : decode cX1_modesBehind 13 = .ok (.iload_n 1, 1) := by decide +kernel
theorem dX1_modesBehind_14 : decode cX1_modesBehind 14 = .ok (.iaload, 1) := by decide +kernel
theorem dX1_modesBehind_15 : decode cX1_modesBehind 15 = .ok (.goto 4, 3) := by decide +kernel
theorem dX1_modesBehind_18 : decode cX1_modesBehind 18 = .ok (.iconst 0, 1) := by decide +kernel
theorem dX1_modesBehind_19 : decode cX1_modesBehind 19 = .ok (.ireturn, 1) := by decide +kernel
theorem dX2_init_0 : decode cX2_init 0 = .ok (.aload_n 0, 1) := by decide +kernel
theorem dX2_init_1 : decode cX2_init 1 = .ok (.invokespecial 3, 3) := by decide +kernel
theorem dX2_init_4 : decode cX2_init 4 = .ok (.aload_n 0, 1) := by decide +kernel
theorem dX2_init_5 : decode cX2_init 5 = .ok (.iconst 1, 1) := by decide +kernel
theorem dX2_init_6 : decode cX2_init 6 = .ok (.putfield 9, 3) := by decide +kernel
theorem dX2_init_9 : decode cX2_init 9 = .ok (.aload_n 0, 1) := by decide +kernel
theorem dX2_init_10 : decode cX2_init 10 = .ok (.iconst 0, 1) := by decide +kernel
theorem dX2_init_11 : decode cX2_init 11 = .ok (.putfield 15, 3) := by decide +kernel
theorem dX2_init_14 : decode cX2_init 14 = .ok (.aload_n 0, 1) := by decide +kernel
theorem dX2_init_15 : decode cX2_init 15 = .ok (.iconst 0, 1) := by decide +kernel
theorem dX2_init_16 : decode cX2_init 16 = .ok (.putfield 18, 3) := by decide +kernel
theorem dX2_init_19 : decode cX2_init 19 = .ok (.aload_n 0, 1) := by decide +kernel
theorem dX2_init_20 : decode cX2_init 20 = .ok (.iconst 0, 1) := by decide +kernel
theorem dX2_init_21 : decode cX2_init 21 = .ok (.putfield 21, 3) := by decide +kernel
theorem dX2_init_24 : decode cX2_init 24 = .ok (.aload_n 0, 1) := by decide +kernel
theorem dX2_init_25 : decode cX2_init 25 = .ok (.iconst 0, 1) := by decide +kernel
theorem dX2_init_26 : decode cX2_init 26 = .ok (.putfield 24, 3) := by decide +kernel
theorem dX2_init_29 : decode cX2_init 29 = .ok (.aload_n 0, 1) := by decide +kernel
theorem dX2_init_30 : decode cX2_init 30 = .ok (.iconst 0, 1) := by decide +kernel
theorem dX2_init_31 : decode cX2_init 31 = .ok (.putfield 27, 3) := by decide +kernel
theorem dX2_init_34 : decode cX2_init 34 = .ok (.aload_n 0, 1) := by decide +kernel
theorem dX2_init_35 : decode cX2_init 35 = .ok (.iconst 0, 1) := by decide +kernel
theorem dX2_init_36 : decode cX2_init 36 = .ok (.putfield 30, 3) := by decide +kernel
theorem dX2_init_39 : decode cX2_init 39 = .ok (.aload_n 0, 1) := by decide +kernel
theorem dX2_init_40 : decode cX2_init 40 = .ok (.iconst 0, 1) := by decide +kernel
theorem dX2_init_41 : decode cX2_init 41 = .ok (.putfield 33, 3) := by decide +kernel
theorem dX2_init_44 : decode cX2_init 44 = .ok (.aload_n 0, 1) := by decide +kernel
theorem dX2_init_45 : decode cX2_init 45 = .ok (.iconst 0, 1) := by decide +kernel
theorem dX2_init_46 : decode cX2_init 46 = .ok (.putfield 36, 3) := by decide +kernel
theorem dX2_init_49 : decode cX2_init 49 = .ok (.aload_n 0, 1) := by decide +kernel
theorem dX2_init_50 : decode cX2_init 50 = .ok (.iconst 0, 1) := by decide +kernel
theorem dX2_init_51 : decode cX2_init 51 = .ok (.putfield 39, 3) := by decide +kernel
theorem dX2_init_54 : decode cX2_init 54 = .ok (.aload_n 0, 1) := by decide +kernel
theorem dX2_init_55 : decode cX2_init 55 = .ok (.iconst 0, 1) := by decide +kernel
theorem dX2_init_56 : decode cX2_init 56 = .ok (.putfield 42, 3) := by decide +kernel
theorem dX2_init_59 : decode cX2_init 59 = .ok (.aload_n 0, 1) := by decide +kernel
theorem dX2_init_60 : decode cX2_init 60 = .ok (.iconst 0, 1) := by decide +kernel
theorem dX2_init_61 : decode cX2_init 61 = .ok (.putfield 45, 3) := by decide +kernel
theorem dX2_init_64 : decode cX2_init 64 = .ok (.aload_n 0, 1) := by decide +kernel
theorem dX2_init_65 : decode cX2_init 65 = .ok (.iconst 0, 1) := by decide +kernel
theorem dX2_init_66 : decode cX2_init 66 = .ok (.putfield 48, 3) := by decide +kernel
theorem dX2_init_69 : decode cX2_init 69 = .ok (.aload_n 0, 1) := by decide +kernel
theorem dX2_init_70 : decode cX2_init 70 = .ok (.iconst 0, 1) := by decide +kernel
theorem dX2_init_71 : decode cX2_init 71 = .ok (.putfield 51, 3) := by decide +kernel
theorem dX2_init_74 : decode cX2_init 74 = .ok (.aload_n 0, 1) := by decide +kernel
theorem dX2_init_75 : decode cX2_init 75 = .ok (.iconst 0, 1) := by decide +kernel
theorem dX2_init_76 : decode cX2_init 76 = .ok (.putfield 54, 3) := by decide +kernel
theorem dX2_init_79 : decode cX2_init 79 = .ok (.aload_n 0, 1) := by decide +kernel
theorem dX2_init_80 : decode cX2_init 80 = .ok (.iconst 0, 1) := by decide +kernel
theorem dX2_init_81 : decode cX2_init 81 = .ok (.putfield 57, 3) := by decide +kernel
theorem dX2_init_84 : decode cX2_init 84 = .ok (.aload_n 0, 1) := by decide +kernel
theorem dX2_init_85 : decode cX2_init 85 = .ok (.aload_n 1, 1) := by decide +kernel
theorem dX2_init_86 : decode cX2_init 86 = .ok (.putfield 60, 3) := by decide +kernel
theorem dX2_init_89 : decode cX2_init 89 = .ok (.aload_n 0, 1) := by decide +kernel
theorem dX2_init_90 : decode cX2_init 90 = .ok (.aload_n 2, 1) := by decide +kernel
theorem dX2_init_91 : decode cX2_init 91 = .ok (.putfield 64, 3) := by decide +kernel
theorem dX2_init_94 : decode cX2_init 94 = .ok (.return_, 1) := by decide +kernel
theorem dX2_begin_0 : decode cX2_begin 0 = .ok (.aload_n 0, 1) := by decide +kernel
theorem dX2_begin_1 : decode cX2_begin 1 = .ok (.iconst 1, 1) := by decide +kernel
theorem dX2_begin_2 : decode cX2_begin 2 = .ok (.putfield 9, 3) := by decide +kernel
theorem dX2_begin_5 : decode cX2_begin 5 = .ok (.aload_n 0, 1) := by decide +kernel
theorem dX2_begin_6 : decode cX2_begin 6 = .ok (.iconst 0, 1) := by decide +kernel
theorem dX2_begin_7 : decode cX2_begin 7 = .ok (.putfield 15, 3) := by decide +kernel
theorem dX2_begin_10 : decode cX2_begin 10 = .ok (.aload_n 0, 1) := by decide +kernel
theorem dX2_begin_11 : decode cX2_begin 11 = .ok (.iconst 0, 1) := by decide +kernel
theorem dX2_begin_12 : decode cX2_begin 12 = .ok (.putfield 18, 3) := by decide +kernel
theorem dX2_begin_15 : decode cX2_begin 15 = .ok (.aload_n 0, 1) := by decide +kernel
theorem dX2_begin_16 : decode cX2_begin 16 = .ok (.iconst 0, 1) := by decide +kernel
theorem dX2_begin_17 : decode cX2_begin 17 = .ok (.putfield 21, 3) := by decide +kernel
theorem dX2_begin_20 : decode cX2_begin 20 = .ok (.aload_n 0, 1) := by decide +kernel
theorem dX2_begin_21 : decode cX2_begin 21 = .ok (.iconst 0, 1) := by decide +kernel
theorem dX2_begin_22 : decode cX2_begin 22 = .ok (.putfield 24, 3) := by decide +kernel
theorem dX2_begin_25 : decode cX2_begin 25 = .ok (.aload_n 0, 1) := by decide +kernel
theorem dX2_begin_26 : decode cX2_begin 26 = .ok (.iconst 0, 1) := by decide +kernel
theorem dX2_begin_27 : decode cX2_begin 27 = .ok (.putfield 27, 3) := by decide +kernel
theorem dX2_begin_30 : decode cX2_begin 30 = .ok (.aload_n 0, 1) := by decide +kernel
theorem dX2_begin_31 : decode cX2_begin 31 = .ok (.iconst 0, 1) := by decide +kernel
theorem dX2_begin_32 : decode cX2_begin 32 = .ok (.putfield 30, 3) := by decide +kernel
theorem dX2_begin_35 : decode cX2_begin 35 = .ok (.aload_n 0, 1) := by decide +kernel
theorem dX2_begin_36 : decode cX2_begin 36 = .ok (.iconst 0, 1) := by decide +kernel
theorem dX2_begin_37 : decode cX2_begin 37 = .ok (.putfield 33, 3) := by decide +kernel
theorem dX2_begin_40 : decode cX2_begin 40 = .ok (.aload_n 0, 1) := by decide +kernel
theorem dX2_begin_41 : decode cX2_begin 41 = .ok (.iconst 0, 1) := by decide +kernel
theorem dX2_begin_42 : decode cX2_begin 42 = .ok (.putfield 36, 3) := by decide +kernel
theorem dX2_begin_45 : decode cX2_begin 45 = .ok (.aload_n 0, 1) := by decide +kernel
theorem dX2_begin_46 : decode cX2_begin 46 = .ok (.iconst 0, 1) := by decide +kernel
theorem dX2_begin_47 : decode cX2_begin 47 = .ok (.putfield 39, 3) := by decide +kernel
theorem dX2_begin_50 : decode cX2_begin 50 = .ok (.aload_n 0, 1) := by decide +kernel
theorem dX2_begin_51 : decode cX2_begin 51 = .ok (.iconst 0, 1) := by decide +kernel
theorem dX2_begin_52 : decode cX2_begin 52 = .ok (.putfield 42, 3) := by decide +kernel
theorem dX2_begin_55 : decode cX2_begin 55 = .ok (.aload_n 0, 1) := by decide +kernel
theorem dX2_begin_56 : decode cX2_begin 56 = .ok (.iconst 0, 1) := by decide +kernel
theorem dX2_begin_57 : decode cX2_begin 57 = .ok (.putfield 45, 3) := by decide +kernel
theorem dX2_begin_60 : decode cX2_begin 60 = .ok (.aload_n 0, 1) := by decide +kernel
theorem dX2_begin_61 : decode cX2_begin 61 = .ok (.iconst 0, 1) := by decide +kernel
theorem dX2_begin_62 : decode cX2_begin 62 = .ok (.putfield 48, 3) := by decide +kernel
theorem dX2_begin_65 : decode cX2_begin 65 = .ok (.aload_n 0, 1) := by decide +kernel
theorem dX2_begin_66 : decode cX2_begin 66 = .ok (.iconst 0, 1) := by decide +kernel
theorem dX2_begin_67 : decode cX2_begin 67 = .ok (.putfield 51, 3) := by decide +kernel
theorem dX2_begin_70 : decode cX2_begin 70 = .ok (.aload_n 0, 1) := by decide +kernel
theorem dX2_begin_71 : decode cX2_begin 71 = .ok (.iconst 0, 1) := by decide +kernel
theorem dX2_begin_72 : decode cX2_begin 72 = .ok (.putfield 54, 3) := by decide +kernel
theorem dX2_begin_75 : decode cX2_begin 75 = .ok (.aload_n 0, 1) := by decide +kernel
theorem dX2_begin_76 : decode cX2_begin 76 = .ok (.iconst 0, 1) := by decide +kernel
theorem dX2_begin_77 : decode cX2_begin 77 = .ok (.putfield 57, 3) := by decide +kernel
theorem dX2_begin_80 : decode cX2_begin 80 = .ok (.return_, 1) := by decide +kernel
theorem dX2_copyFrom_0 : decode cX2_copyFrom 0 = .ok (.aload_n 0, 1) := by decide +kernel
theorem dX2_copyFrom_1 : decode cX2_copyFrom 1 = .ok (.aload_n 1, 1) := by decide +kernel
theorem dX2_copyFrom_2 : decode cX2_copyFrom 2 = .ok (.getfield 9, 3) := by decide +kernel
theorem dX2_copyFrom_5 : decode cX2_copyFrom 5 = .ok (.putfield 9, 3) := by decide +kernel
theorem dX2_copyFrom_8 : decode cX2_copyFrom 8 = .ok (.aload_n 0, 1) := by decide +kernel
theorem dX2_copyFrom_9 : decode cX2_copyFrom 9 = .ok (.aload_n 1, 1) := by decide +kernel
theorem dX2_copyFrom_10 : decode cX2_copyFrom 10 = .ok (.getfield 15, 3) := by decide +kernel
theorem dX2_copyFrom_13 : decode cX2_copyFrom 13 = .ok (.putfield 15, 3) := by decide +kernel
theorem dX2_copyFrom_16 : decode cX2_copyFrom 16 = .ok (.aload_n 0, 1) := by decide +kernel
theorem dX2_copyFrom_17 : decode cX2_copyFrom 17 = .ok (.aload_n 1, 1) := by decide +kernel
theorem dX2_copyFrom_18 : decode cX2_copyFrom 18 = .ok (.getfield 18, 3) := by decide +kernel
theorem dX2_copyFrom_21 : decode cX2_copyFrom 21 = .ok (.putfield 18, 3) := by decide +kernel
theorem dX2_copyFrom_24 : decode cX2_copyFrom 24 = .ok (.aload_n 0, 1) := by decide +kernel
theorem dX2_copyFrom_25 : decode cX2_copyFrom 25 = .ok (.aload_n 1, 1) := by decide +kernel
theorem dX2_copyFrom_26 : decode cX2_copyFrom 26 = .ok (.getfield 21, 3) := by decide +kernel
theorem dX2_copyFrom_29 : decode cX2_copyFrom 29 = .ok (.putfield 21, 3) := by decide +kernel
theorem dX2_copyFrom_32 : decode cX2_copyFrom 32 = .ok (.aload_n 0, 1) := by decide +kernel
theorem dX2_copyFrom_33 : decode cX2_copyFrom 33 = .ok (.aload_n 1, 1) := by decide +kernel
theorem dX2_copyFrom_34 : decode cX2_copyFrom 34 = .ok (.getfield 24, 3) := by decide +kernel
theorem dX2_copyFrom_37 : decode cX2_copyFrom 37 = .ok (.putfield 24, 3) := by decide +kernel
theorem dX2_copyFrom_40 : decode cX2_copyFrom 40 = .ok (.aload_n 0, 1) := by decide +kernel
theorem dX2_copyFrom_41 : decode cX2_copyFrom 41 = .ok (.aload_n 1, 1) := by decide +kernel
theorem dX2_copyFrom_42 : decode cX2_copyFrom 42 = .ok (.getfield 27, 3) := by decide +kernel
theorem dX2_copyFrom_45 : decode cX2_copyFrom 45 = .ok (.putfield 27, 3) := by decide +kernel
theorem dX2_copyFrom_48 : decode cX2_copyFrom 48 = .ok (.aload_n 0, 1) := by decide +kernel
theorem dX2_copyFrom_49 : decode cX2_copyFrom 49 = .ok (.aload_n 1, 1) := by decide +kernel
theorem dX2_copyFrom_50 : decode cX2_copyFrom 50 = .ok (.getfield 30, 3) := by decide +kernel
theorem dX2_copyFrom_53 : decode cX2_copyFrom 53 = .ok (.putfield 30, 3) := by decide +kernel
theorem dX2_copyFrom_56 : decode cX2_copyFrom 56 = .ok (.aload_n 0, 1) := by decide +kernel
theorem dX2_copyFrom_57 : decode cX2_copyFrom 57 = .ok (.aload_n 1, 1) := by decide +kernel
theorem dX2_copyFrom_58 : decode cX2_copyFrom 58 = .ok (.getfield 33, 3) := by decide +kernel
theorem dX2_copyFrom_61 : decode cX2_copyFrom 61 = .ok (.putfield 33, 3) := by decide +kernel
theorem dX2_copyFrom_64 : decode cX2_copyFrom 64 = .ok (.aload_n 0, 1) := by decide +kernel
theorem dX2_copyFrom_65 : decode cX2_copyFrom 65 = .ok (.aload_n 1, 1) := by decide +kernel
theorem dX2_copyFrom_66 : decode cX2_copyFrom 66 = .ok (.getfield 36, 3) := by decide +kernel
theorem dX2_copyFrom_69 : decode cX2_copyFrom 69 = .ok (.putfield 36, 3) := by decide +kernel
theorem dX2_copyFrom_72 : decode cX2_copyFrom 72 = .ok (.aload_n 0, 1) := by decide +kernel
theorem dX2_copyFrom_73 : decode cX2_copyFrom 73 = .ok (.aload_n 1, 1) := by decide +kernel
theorem dX2_copyFrom_74 : decode cX2_copyFrom 74 = .ok (.getfield 39, 3) := by decide +kernel
theorem dX2_copyFrom_77 : decode cX2_copyFrom 77 = .ok (.putfield 39, 3) := by decide +kernel
theorem dX2_copyFrom_80 : decode cX2_copyFrom 80 = .ok (.aload_n 0, 1) := by decide +kernel
theorem dX2_copyFrom_81 : decode cX2_copyFrom 81 = .ok (.aload_n 1, 1) := by decide +kernel
theorem dX2_copyFrom_82 : decode cX2_copyFrom 82 = .ok (.getfield 42, 3) := by decide +kernel
theorem dX2_copyFrom_85 : decode cX2_copyFrom 85 = .ok (.putfield 42, 3) := by decide +kernel
theorem dX2_copyFrom_88 : decode cX2_copyFrom 88 = .ok (.aload_n 0, 1) := by decide +kernel
theorem dX2_copyFrom_89 : decode cX2_copyFrom 89 = .ok (.aload_n 1, 1) := by decide +kernel
theorem dX2_copyFrom_90 : decode cX2_copyFrom 90 = .ok (.getfield 45, 3) := by decide +kernel
theorem dX2_copyFrom_93 : decode cX2_copyFrom 93 = .ok (.putfield 45, 3) := by decide +kernel
theorem dX2_copyFrom_96 : decode cX2_copyFrom 96 = .ok (.aload_n 0, 1) := by decide +kernel
theorem dX2_copyFrom_97 : decode cX2_copyFrom 97 = .ok (.aload_n 1, 1) := by decide +kernel
theorem dX2_copyFrom_98 : decode cX2_copyFrom 98 = .ok (.getfield 48, 3) := by decide +kernel
theorem dX2_copyFrom_101 : decode cX2_copyFrom 101 = .ok (.putfield 48, 3) := by decide +kernel
theorem dX2_copyFrom_104 : decode cX2_copyFrom 104 = .ok (.aload_n 0, 1) := by decide +kernel
theorem dX2_copyFrom_105 : decode cX2_copyFrom 105 = .ok (.aload_n 1, 1) := by decide +kernel
theorem dX2_copyFrom_106 : decode cX2_copyFrom 106 = .ok (.getfield 51, 3) := by decide +kernel
theorem dX2_copyFrom_109 : decode cX2_copyFrom 109 = .ok (.putfield 51, 3) := by decide +kernel
theorem dX2_copyFrom_112 : decode cX2_copyFrom 112 = .ok (.aload_n 0, 1) := by decide +kernel
theorem dX2_copyFrom_113 : decode cX2_copyFrom 113 = .ok (.aload_n 1, 1) := by decide +kernel
theorem dX2_copyFrom_114 : decode cX2_copyFrom 114 = .ok (.getfield 54, 3) := by decide +kernel
theorem dX2_copyFrom_117 : decode cX2_copyFrom 117 = .ok (.putfield 54, 3) := by decide +kernel
theorem dX2_copyFrom_120 : decode cX2_copyFrom 120 = .ok (.aload_n 0, 1) := by decide +kernel
theorem dX2_copyFrom_121 : decode cX2_copyFrom 121 = .ok (.aload_n 1, 1) := by decide +kernel
theorem dX2_copyFrom_122 : decode cX2_copyFrom 122 = .ok (.getfield 57, 3) := by decide +kernel
theorem dX2_copyFrom_125 : decode cX2_copyFrom 125 = .ok (.putfield 57, 3) := by decide +kernel
theorem dX2_copyFrom_128 : decode cX2_copyFrom 128 = .ok (.return_, 1) := by decide +kernel
theorem dX2_part_0 : decode cX2_part 0 = .ok (.iload_n 1, 1) := by decide +kernel
theorem dX2_part_1 : decode cX2_part 1 = .ok (.tableswitch 153 0 13 #[71, 76, 81, 86, 91, 96, 101, 106, 111, 116, 121, 126, 131, 136], 71) := by decide +kernel
theorem dX2_part_72 : decode cX2_part 72 = .ok (.aload_n 0, 1) := by decide +kernel
theorem dX2_part_73 : decode cX2_part 73 = .ok (.getfield 9, 3) := by decide +kernel
theorem dX2_part_76 : decode cX2_part 76 = .ok (.ireturn, 1) := by decide +kernel
theorem dX2_part_77 : decode cX2_part 77 = .ok (.aload_n 0, 1) := by decide +kernel
theorem dX2_part_78 : decode cX2_part 78 = .ok (.getfield 15, 3) := by decide +kernel
theorem dX2_part_81 : decode cX2_part 81 = .ok (.ireturn, 1) := by decide +kernel
theorem dX2_part_82 : decode cX2_part 82 = .ok (.aload_n 0, 1) := by decide +kernel
theorem dX2_part_83 : decode cX2_part 83 = .ok (.getfield 18, 3) := by decide +kernel
theorem dX2_part_86 : decode cX2_part 86 = .ok (.ireturn, 1) := by decide +kernel
theorem dX2_part_87 : decode cX2_part 87 = .ok (.aload_n 0, 1) := by decide +kernel
theorem dX2_part_88 : decode cX2_part 88 = .ok (.getfield 21, 3) := by decide +kernel
theorem dX2_part_91 : decode cX2_part 91 = .ok (.ireturn, 1) := by decide +kernel
theorem dX2_part_92 : decode cX2_part 92 = .ok (.aload_n 0, 1) := by decide +kernel
theorem dX2_part_93 : decode cX2_part 93 = .ok (.getfield 24, 3) := by decide +kernel
theorem dX2_part_96 : decode cX2_part 96 = .ok (.ireturn, 1) := by decide +kernel
theorem dX2_part_97 : decode cX2_part 97 = .ok (.aload_n 0, 1) := by decide +kernel
theorem dX2_part_98 : decode cX2_part 98 = .ok (.getfield 27, 3) := by decide +kernel
theorem dX2_part_101 : decode cX2_part 101 = .ok (.ireturn, 1) := by decide +kernel
theorem dX2_part_102 : decode cX2_part 102 = .ok (.aload_n 0, 1) := by decide +kernel
theorem dX2_part_103 : decode cX2_part 103 = .ok (.getfield 30, 3) := by decide +kernel
theorem dX2_part_106 : decode cX2_part 106 = .ok (.ireturn, 1) := by decide +kernel
theorem dX2_part_107 : decode cX2_part 107 = .ok (.aload_n 0, 1) := by decide +kernel
theorem dX2_part_108 : decode cX2_part 108 = .ok (.getfield 33, 3) := by decide +kernel
theorem dX2_part_111 : decode cX2_part 111 = .ok (.ireturn, 1) := by decide +kernel
theorem dX2_part_112 : decode cX2_part 112 = .ok (.aload_n 0, 1) := by decide +kernel
theorem dX2_part_113 : decode cX2_part 113 = .ok (.getfield 36, 3) := by decide +kernel
theorem dX2_part_116 : decode cX2_part 116 = .ok (.ireturn, 1) := by decide +kernel
theorem dX2_part_117 : decode cX2_part 117 = .ok (.aload_n 0, 1) := by decide +kernel
theorem dX2_part_118 : decode cX2_part 118 = .ok (.getfield 39, 3) := by decide +kernel
theorem dX2_part_121 : decode cX2_part 121 = .ok (.ireturn, 1) := by decide +kernel
theorem dX2_part_122 : decode cX2_part 122 = .ok (.aload_n 0, 1) := by decide +kernel
theorem dX2_part_123 : decode cX2_part 123 = .ok (.getfield 42, 3) := by decide +kernel
theorem dX2_part_126 : decode cX2_part 126 = .ok (.ireturn, 1) := by decide +kernel
theorem dX2_part_127 : decode cX2_part 127 = .ok (.aload_n 0, 1) := by decide +kernel
theorem dX2_part_128 : decode cX2_part 128 = .ok (.getfield 45, 3) := by decide +kernel
theorem dX2_part_131 : decode cX2_part 131 = .ok (.ireturn, 1) := by decide +kernel
theorem dX2_part_132 : decode cX2_part 132 = .ok (.aload_n 0, 1) := by decide +kernel
theorem dX2_part_133 : decode cX2_part 133 = .ok (.getfield 48, 3) := by decide +kernel
theorem dX2_part_136 : decode cX2_part 136 = .ok (.ireturn, 1) := by decide +kernel
theorem dX2_part_137 : decode cX2_part 137 = .ok (.aload_n 0, 1) := by decide +kernel
theorem dX2_part_138 : decode cX2_part 138 = .ok (.getfield 9, 3) := by decide +kernel
theorem dX2_part_141 : decode cX2_part 141 = .ok (.ifCond .ne 10, 3) := by decide +kernel
theorem dX2_part_144 : decode cX2_part 144 = .ok (.aload_n 0, 1) := by decide +kernel
theorem dX2_part_145 : decode cX2_part 145 = .ok (.getfield 51, 3) := by decide +kernel
theorem dX2_part_148 : decode cX2_part 148 = .ok (.goto 5, 3) := by decide +kernel
theorem dX2_part_151 : decode cX2_part 151 = .ok (.bipush (-9), 2) := by decide +kernel
theorem dX2_part_153 : decode cX2_part 153 = .ok (.ireturn, 1) := by decide +kernel
theorem dX2_part_154 : decode cX2_part 154 = .ok (.bipush (-2), 2) := by decide +kernel
theorem dX2_part_156 : decode cX2_part 156 = .ok (.ireturn, 1) := by decide +kernel
theorem dX2_stateNumber_0 : decode cX2_stateNumber 0 = .ok (.lconst 1, 1) := by decide +kernel
theorem dX2_stateNumber_1 : decode cX2_stateNumber 1 = .ok (.lstore_n 1, 1) := by decide +kernel
theorem dX2_stateNumber_2 : decode cX2_stateNumber 2 = .ok (.lload_n 1, 1) := by decide +kernel
theorem dX2_stateNumber_3 : decode cX2_stateNumber 3 = .ok (.ldc2_w 68, 3) := by decide +kernel
theorem dX2_stateNumber_6 : decode cX2_stateNumber 6 = .ok (.lmul, 1) := by decide +kernel
theorem dX2_stateNumber_7 : decode cX2_stateNumber 7 = .ok (.aload_n 0, 1) := by decide +kernel
theorem dX2_stateNumber_8 : decode cX2_stateNumber 8 = .ok (.getfield 9, 3) := by decide +kernel
theorem dX2_stateNumber_11 : decode cX2_stateNumber 11 = .ok (.i2l, 1) := by decide +kernel
theorem dX2_stateNumber_12 : decode cX2_stateNumber 12 = .ok (.ladd, 1) := by decide +kernel
theorem dX2_stateNumber_13 : decode cX2_stateNumber 13 = .ok (.lstore_n 1, 1) := by decide +kernel
theorem dX2_stateNumber_14 : decode cX2_stateNumber 14 = .ok (.lload_n 1, 1) := by decide +kernel
theorem dX2_stateNumber_15 : decode cX2_stateNumber 15 = .ok (.ldc2_w 70, 3) := by decide +kernel
theorem dX2_stateNumber_18 : decode cX2_stateNumber 18 = .ok (.lmul, 1) := by decide +kernel
theorem dX2_stateNumber_19 : decode cX2_stateNumber 19 = .ok (.aload_n 0, 1) := by decide +kernel
theorem dX2_stateNumber_20 : decode cX2_stateNumber 20 = .ok (.getfield 15, 3) := by decide +kernel
theorem dX2_stateNumber_23 : decode cX2_stateNumber 23 = .ok (.i2l, 1) := by decide +kernel
theorem dX2_stateNumber_24 : decode cX2_stateNumber 24 = .ok (.ladd, 1) := by decide +kernel
theorem dX2_stateNumber_25 : decode cX2_stateNumber 25 = .ok (.lstore_n 1, 1) := by decide +kernel
theorem dX2_stateNumber_26 : decode cX2_stateNumber 26 = .ok (.lload_n 1, 1) := by decide +kernel
theorem dX2_stateNumber_27 : decode cX2_stateNumber 27 = .ok (.ldc2_w 72, 3) := by decide +kernel
theorem dX2_stateNumber_30 : decode cX2_stateNumber 30 = .ok (.lmul, 1) := by decide +kernel
theorem dX2_stateNumber_31 : decode cX2_stateNumber 31 = .ok (.aload_n 0, 1) := by decide +kernel
theorem dX2_stateNumber_32 : decode cX2_stateNumber 32 = .ok (.getfield 18, 3) := by decide +kernel
theorem dX2_stateNumber_35 : decode cX2_stateNumber 35 = .ok (.i2l, 1) := by decide +kernel
theorem dX2_stateNumber_36 : decode cX2_stateNumber 36 = .ok (.ladd, 1) := by decide +kernel
theorem dX2_stateNumber_37 : decode cX2_stateNumber 37 = .ok (.lstore_n 1, 1) := by decide +kernel
theorem dX2_stateNumber_38 : decode cX2_stateNumber 38 = .ok (.lload_n 1, 1) := by decide +kernel
theorem dX2_stateNumber_39 : decode cX2_stateNumber 39 = .ok (.ldc2_w 68, 3) := by decide +kernel
theorem dX2_stateNumber_42 : decode cX2_stateNumber 42 = .ok (.lmul, 1) := by decide +kernel
theorem dX2_stateNumber_43 : decode cX2_stateNumber 43 = .ok (.aload_n 0, 1) := by decide +kernel
theorem dX2_stateNumber_44 : decode cX2_stateNumber 44 = .ok (.getfield 21, 3) := by decide +kernel
theorem dX2_stateNumber_47 : decode cX2_stateNumber 47 = .ok (.i2l, 1) := by decide +kernel
theorem dX2_stateNumber_48 : decode cX2_stateNumber 48 = .ok (.ladd, 1) := by decide +kernel
theorem dX2_stateNumber_49 : decode cX2_stateNumber 49 = .ok (.lstore_n 1, 1) := by decide +kernel
theorem dX2_stateNumber_50 : decode cX2_stateNumber 50 = .ok (.lload_n 1, 1) := by decide +kernel
theorem dX2_stateNumber_51 : decode cX2_stateNumber 51 = .ok (.ldc2_w 74, 3) := by decide +kernel
theorem dX2_stateNumber_54 : decode cX2_stateNumber 54 = .ok (.lmul, 1) := by decide +kernel
theorem dX2_stateNumber_55 : decode cX2_stateNumber 55 = .ok (.aload_n 0, 1) := by decide +kernel
theorem dX2_stateNumber_56 : decode cX2_stateNumber 56 = .ok (.getfield 24, 3) := by decide +kernel
theorem dX2_stateNumber_59 : decode cX2_stateNumber 59 = .ok (.i2l, 1) := by decide +kernel
theorem dX2_stateNumber_60 : decode cX2_stateNumber 60 = .ok (.ladd, 1) := by decide +kernel
theorem dX2_stateNumber_61 : decode cX2_stateNumber 61 = .ok (.lstore_n 1, 1) := by decide +kernel
theorem dX2_stateNumber_62 : decode cX2_stateNumber 62 = .ok (.lload_n 1, 1) := by decide +kernel
theorem dX2_stateNumber_63 : decode cX2_stateNumber 63 = .ok (.ldc2_w 72, 3) := by decide +kernel
theorem dX2_stateNumber_66 : decode cX2_stateNumber 66 = .ok (.lmul, 1) := by decide +kernel
theorem dX2_stateNumber_67 : decode cX2_stateNumber 67 = .ok (.aload_n 0, 1) := by decide +kernel
theorem dX2_stateNumber_68 : decode cX2_stateNumber 68 = .ok (.getfield 27, 3) := by decide +kernel
theorem dX2_stateNumber_71 : decode cX2_stateNumber 71 = .ok (.i2l, 1) := by decide +kernel
theorem dX2_stateNumber_72 : decode cX2_stateNumber 72 = .ok (.ladd, 1) := by decide +kernel
theorem dX2_stateNumber_73 : decode cX2_stateNumber 73 = .ok (.lstore_n 1, 1) := by decide +kernel
theorem dX2_stateNumber_74 : decode cX2_stateNumber 74 = .ok (.lload_n 1, 1) := by decide +kernel
theorem dX2_stateNumber_75 : decode cX2_stateNumber 75 = .ok (.ldc2_w 72, 3) := by decide +kernel
theorem dX2_stateNumber_78 : decode cX2_stateNumber 78 = .ok (.lmul, 1) := by decide +kernel
theorem dX2_stateNumber_79 : decode cX2_stateNumber 79 = .ok (.aload_n 0, 1) := by decide +kernel
theorem dX2_stateNumber_80 : decode cX2_stateNumber 80 = .ok (.getfield 30, 3) := by decide +kernel
theorem dX2_stateNumber_83 : decode cX2_stateNumber 83 = .ok (.i2l, 1) := by decide +kernel
theorem dX2_stateNumber_84 : decode cX2_stateNumber 84 = .ok (.ladd, 1) := by decide +kernel
theorem dX2_stateNumber_85 : decode cX2_stateNumber 85 = .ok (.lstore_n 1, 1) := by decide +kernel
theorem dX2_stateNumber_86 : decode cX2_stateNumber 86 = .ok (.lload_n 1, 1) := by decide +kernel
theorem dX2_stateNumber_87 : decode cX2_stateNumber 87 = .ok (.ldc2_w 72, 3) := by decide +kernel
theorem dX2_stateNumber_90 : decode cX2_stateNumber 90 = .ok (.lmul, 1) := by decide +kernel
theorem dX2_stateNumber_91 : decode cX2_stateNumber 91 = .ok (.aload_n 0, 1) := by decide +kernel
theorem dX2_stateNumber_92 : decode cX2_stateNumber 92 = .ok (.getfield 33, 3) := by decide +kernel
theorem dX2_stateNumber_95 : decode cX2_stateNumber 95 = .ok (.i2l, 1) := by decide +kernel
theorem dX2_stateNumber_96 : decode cX2_stateNumber 96 = .ok (.ladd, 1) := by decide +kernel
theorem dX2_stateNumber_97 : decode cX2_stateNumber 97 = .ok (.lstore_n 1, 1) := by decide +kernel
theorem dX2_stateNumber_98 : decode cX2_stateNumber 98 = .ok (.lload_n 1, 1) := by decide +kernel
theorem dX2_stateNumber_99 : decode cX2_stateNumber 99 = .ok (.ldc2_w 72, 3) := by decide +kernel
theorem dX2_stateNumber_102 : decode cX2_stateNumber 102 = .ok (.lmul, 1) := by decide +kernel
theorem dX2_stateNumber_103 : decode cX2_stateNumber 103 = .ok (.aload_n 0, 1) := by decide +kernel
theorem dX2_stateNumber_104 : decode cX2_stateNumber 104 = .ok (.getfield 36, 3) := by decide +kernel
theorem dX2_stateNumber_107 : decode cX2_stateNumber 107 = .ok (.i2l, 1) := by decide +kernel
theorem dX2_stateNumber_108 : decode cX2_stateNumber 108 = .ok (.ladd, 1) := by decide +kernel
theorem dX2_stateNumber_109 : decode cX2_stateNumber 109 = .ok (.lstore_n 1, 1) := by decide +kernel
theorem dX2_stateNumber_110 : decode cX2_stateNumber 110 = .ok (.lload_n 1, 1) := by decide +kernel
theorem dX2_stateNumber_111 : decode cX2_stateNumber 111 = .ok (.ldc2_w 76, 3) := by decide +kernel
theorem dX2_stateNumber_114 : decode cX2_stateNumber 114 = .ok (.lmul, 1) := by decide +kernel
theorem dX2_stateNumber_115 : decode cX2_stateNumber 115 = .ok (.aload_n 0, 1) := by decide +kernel
theorem dX2_stateNumber_116 : decode cX2_stateNumber 116 = .ok (.getfield 39, 3) := by decide +kernel
theorem dX2_stateNumber_119 : decode cX2_stateNumber 119 = .ok (.i2l, 1) := by decide +kernel
theorem dX2_stateNumber_120 : decode cX2_stateNumber 120 = .ok (.ladd, 1) := by decide +kernel
theorem dX2_stateNumber_121 : decode cX2_stateNumber 121 = .ok (.lstore_n 1, 1) := by decide +kernel
theorem dX2_stateNumber_122 : decode cX2_stateNumber 122 = .ok (.lload_n 1, 1) := by decide +kernel
theorem dX2_stateNumber_123 : decode cX2_stateNumber 123 = .ok (.ldc2_w 78, 3) := by decide +kernel
theorem dX2_stateNumber_126 : decode cX2_stateNumber 126 = .ok (.lmul, 1) := by decide +kernel
theorem dX2_stateNumber_127 : decode cX2_stateNumber 127 = .ok (.aload_n 0, 1) := by decide +kernel
theorem dX2_stateNumber_128 : decode cX2_stateNumber 128 = .ok (.getfield 42, 3) := by decide +kernel
theorem dX2_stateNumber_131 : decode cX2_stateNumber 131 = .ok (.i2l, 1) := by decide +kernel
theorem dX2_stateNumber_132 : decode cX2_stateNumber 132 = .ok (.ladd, 1) := by decide +kernel
theorem dX2_stateNumber_133 : decode cX2_stateNumber 133 = .ok (.lstore_n 1, 1) := by decide +kernel
theorem dX2_stateNumber_134 : decode cX2_stateNumber 134 = .ok (.lload_n 1, 1) := by decide +kernel
theorem dX2_stateNumber_135 : decode cX2_stateNumber 135 = .ok (.ldc2_w 70, 3) := by decide +kernel
theorem dX2_stateNumber_138 : decode cX2_stateNumber 138 = .ok (.lmul, 1) := by decide +kernel
theorem dX2_stateNumber_139 : decode cX2_stateNumber 139 = .ok (.aload_n 0, 1) := by decide +kernel
theorem dX2_stateNumber_140 : decode cX2_stateNumber 140 = .ok (.getfield 45, 3) := by decide +kernel
theorem dX2_stateNumber_143 : decode cX2_stateNumber 143 = .ok (.i2l, 1) := by decide +kernel
theorem dX2_stateNumber_144 : decode cX2_stateNumber 144 = .ok (.ladd, 1) := by decide +kernel
theorem dX2_stateNumber_145 : decode cX2_stateNumber 145 = .ok (.lstore_n 1, 1) := by decide +kernel
theorem dX2_stateNumber_146 : decode cX2_stateNumber 146 = .ok (.lload_n 1, 1) := by decide +kernel
theorem dX2_stateNumber_147 : decode cX2_stateNumber 147 = .ok (.ldc2_w 76, 3) := by decide +kernel
theorem dX2_stateNumber_150 : decode cX2_stateNumber 150 = .ok (.lmul, 1) := by decide +kernel
theorem dX2_stateNumber_151 : decode cX2_stateNumber 151 = .ok (.aload_n 0, 1) := by decide +kernel
theorem dX2_stateNumber_152 : decode cX2_stateNumber 152 = .ok (.getfield 48, 3) := by decide +kernel
theorem dX2_stateNumber_155 : decode cX2_stateNumber 155 = .ok (.i2l, 1) := by decide +kernel
theorem dX2_stateNumber_156 : decode cX2_stateNumber 156 = .ok (.ladd, 1) := by decide +kernel
theorem dX2_stateNumber_157 : decode cX2_stateNumber 157 = .ok (.lreturn, 1) := by decide +kernel
set_option maxRecDepth 20000 in
theorem ggX2_advance_X0_seenOf : GoodIn wsX2_advance wsX0_seenOf := goodIn_r _ [14, 15, 16, 115, 116, 117, 118] (by decide +kernel) (by decide +kernel)
set_option maxRecDepth 20000 in
theorem gX2_advance_X0_seenOf : GoodIn wsX2_advance (wsV RX2 80 RX0 yX0_seenOf wsX0_seenOf) := goodIn_app (goodIn_of _ (by decide +kernel)) ggX2_advance_X0_seenOf
set_option maxRecDepth 20000 in
theorem ggX2_advance_X2_apartThen : GoodIn wsX2_advance wsX2_apartThen := goodIn_r _ [20, 21, 22, 23, 24, 25, 26, 27, 28, 19, 29, 30, 31, 32, 33] (by decide +kernel) (by decide +kernel)
set_option maxRecDepth 20000 in
theorem gX2_advance_X2_apartThen : GoodIn wsX2_advance (va_wsS RX2 86 yX2_apartThen wsX2_apartThen) := goodIn_app (goodIn_of _ (by decide +kernel)) ggX2_advance_X2_apartThen
set_option maxRecDepth 20000 in
theorem ggX2_advance_X2_moveMuting : GoodIn wsX2_advance wsX2_moveMuting := goodIn_r _ [37, 38, 39, 40, 41, 25, 22, 26, 42, 43, 44, 19, 45, 46, 47, 48, 49, 97, 98, 99, 100, 101, 102, 103, 104, 105, 106, 107, 108, 109, 110, 111, 112, 113, 114, 119, 120, 121, 122, 123] (by decide +kernel) (by decide +kernel)
set_option maxRecDepth 20000 in
theorem gX2_advance_X2_moveMuting : GoodIn wsX2_advance (wsV RX2 90 RX2 yX2_moveMuting wsX2_moveMuting) := goodIn_app (goodIn_of _ (by decide +kernel)) ggX2_advance_X2_moveMuting
set_option maxRecDepth 20000 in
theorem ggX2_advance_X2_moveHands : GoodIn wsX2_advance wsX2_moveHands := goodIn_r _ [53, 5, 54, 21, 22, 23, 24, 25, 26, 55, 56, 57, 19, 58, 40, 59, 97, 98, 99, 100, 101, 102, 103, 104, 105, 106, 107, 108, 109, 110, 111, 112, 113, 114, 119, 120, 121, 122, 123] (by decide +kernel) (by decide +kernel)
set_option maxRecDepth 20000 in
theorem gX2_advance_X2_moveHands : GoodIn wsX2_advance (wsV RX2 94 RX2 yX2_moveHands wsX2_moveHands) := goodIn_app (goodIn_of _ (by decide +kernel)) ggX2_advance_X2_moveHands
set_option maxRecDepth 20000 in
theorem ggX2_advance_X0_valvesObey : GoodIn wsX2_advance wsX0_valvesObey := goodIn_r _ [63, 64, 65, 66, 67, 13, 68, 115, 116, 117, 118] (by decide +kernel) (by decide +kernel)
set_option maxRecDepth 20000 in
theorem gX2_advance_X0_valvesObey : GoodIn wsX2_advance (wsV RX2 97 RX0 yX0_valvesObey wsX0_valvesObey) := goodIn_app (goodIn_of _ (by decide +kernel)) ggX2_advance_X0_valvesObey
set_option maxRecDepth 20000 in
theorem ggX2_advance_X2_oneMore : GoodIn wsX2_advance wsX2_oneMore := goodIn_r _ [29, 30, 31, 32, 33] (by decide +kernel) (by decide +kernel)
set_option maxRecDepth 20000 in
theorem gX2_advance_X2_oneMore : GoodIn wsX2_advance (va_wsS RX2 101 yX2_oneMore wsX2_oneMore) := goodIn_app (goodIn_of _ (by decide +kernel)) ggX2_advance_X2_oneMore
set_option maxRecDepth 20000 in
theorem ggX2_advance_X8_pairCount : GoodIn wsX2_advance wsX8_pairCount := goodIn_r _ [23, 24, 25, 22, 26] (by decide +kernel) (by decide +kernel)
set_option maxRecDepth 20000 in
theorem gX2_advance_X8_pairCount_n104 : GoodIn wsX2_advance (wsX8_pairCount) := ggX2_advance_X8_pairCount
set_option maxRecDepth 20000 in
theorem ggX2_advance_X2_isMuted : GoodIn wsX2_advance wsX2_isMuted := goodIn_r _ [49, 38, 97, 98, 99, 100, 101, 102, 103, 104, 105, 106, 107, 108, 109, 110, 111, 112, 113, 114] (by decide +kernel) (by decide +kernel)
set_option maxRecDepth 20000 in
theorem gX2_advance_X2_isMuted : GoodIn wsX2_advance (wsV RX2 108 RX2 yX2_isMuted wsX2_isMuted) := goodIn_app (goodIn_of _ (by decide +kernel)) ggX2_advance_X2_isMuted
set_option maxRecDepth 20000 in
theorem ggX2_advance_X2_changeMode : GoodIn wsX2_advance wsX2_changeMode := goodIn_r _ [72, 8, 9, 5, 73, 74, 40, 75, 76, 77, 78, 19, 79, 2, 80, 3, 4, 7, 38, 25, 22, 26, 97, 98, 99, 100, 101, 102, 103, 104, 105, 106, 107, 108, 109, 110, 111, 112, 113, 114, 119, 120, 121, 122, 123] (by decide +kernel) (by decide +kernel)
set_option maxRecDepth 20000 in
theorem gX2_advance_X2_changeMode : GoodIn wsX2_advance (wsV RX2 112 RX2 yX2_changeMode wsX2_changeMode) := goodIn_app (goodIn_of _ (by decide +kernel)) ggX2_advance_X2_changeMode
set_option maxRecDepth 20000 in
theorem ggX2_advance_X2_moveSlide : GoodIn wsX2_advance wsX2_moveSlide := goodIn_r _ [84, 1, 6, 40, 85, 86, 73, 75, 87, 8, 88, 89, 90, 13, 91, 64, 65, 66, 67, 68, 21, 22, 23, 24, 25, 26, 46, 47, 48, 19, 49, 38, 92, 93, 94, 95, 96, 97, 98, 99, 100, 101, 102, 103, 104, 105, 106, 107, 108, 109, 110, 111, 112, 113, 114, 119, 120, 121, 122, 123, 115, 116, 117, 118] (by decide +kernel) (by decide +kernel)
set_option maxRecDepth 20000 in
theorem gX2_advance_X2_moveSlide : GoodIn wsX2_advance (wsV RX2 116 RX2 yX2_moveSlide wsX2_moveSlide) := goodIn_app (goodIn_of _ (by decide +kernel)) ggX2_advance_X2_moveSlide
set_option maxRecDepth 20000 in
theorem ggX2_advance_X8_bit : GoodIn wsX2_advance wsX8_bit := goodIn_r _ [26] (by decide +kernel) (by decide +kernel)
set_option maxRecDepth 20000 in
theorem gX2_advance_X8_bit_n119 : GoodIn wsX2_advance (wsX8_bit) := ggX2_advance_X8_bit
theorem dX2_advance_0 : decode cX2_advance 0 = .ok (.aload_n 0, 1) := by decide +kernel
theorem dX2_advance_1 : decode cX2_advance 1 = .ok (.getfield 64, 3) := by decide +kernel
theorem dX2_advance_4 : decode cX2_advance 4 = .ok (.iload_n 1, 1) := by decide +kernel
theorem dX2_advance_5 : decode cX2_advance 5 = .ok (.invokevirtual 80, 3) := by decide +kernel
theorem dX2_advance_8 : decode cX2_advance 8 = .ok (.istore_n 2, 1) := by decide +kernel
theorem dX2_advance_9 : decode cX2_advance 9 = .ok (.aload_n 0, 1) := by decide +kernel
theorem dX2_advance_10 : decode cX2_advance 10 = .ok (.aload_n 0, 1) := by decide +kernel
theorem dX2_advance_11 : decode cX2_advance 11 = .ok (.getfield 27, 3) := by decide +kernel
theorem dX2_advance_14 : decode cX2_advance 14 = .ok (.iload_n 2, 1) := by decide +kernel
theorem dX2_advance_15 : decode cX2_advance 15 = .ok (.iconst 0, 1) := by decide +kernel
theorem dX2_advance_16 : decode cX2_advance 16 = .ok (.invokestatic 86, 3) := by decide +kernel
theorem dX2_advance_19 : decode cX2_advance 19 = .ok (.putfield 27, 3) := by decide +kernel
theorem dX2_advance_22 : decode cX2_advance 22 = .ok (.aload_n 0, 1) := by decide +kernel
theorem dX2_advance_23 : decode cX2_advance 23 = .ok (.aload_n 0, 1) := by decide +kernel
theorem dX2_advance_24 : decode cX2_advance 24 = .ok (.getfield 30, 3) := by decide +kernel
theorem dX2_advance_27 : decode cX2_advance 27 = .ok (.iload_n 2, 1) := by decide +kernel
theorem dX2_advance_28 : decode cX2_advance 28 = .ok (.iconst 2, 1) := by decide +kernel
theorem dX2_advance_29 : decode cX2_advance 29 = .ok (.invokestatic 86, 3) := by decide +kernel
theorem dX2_advance_32 : decode cX2_advance 32 = .ok (.putfield 30, 3) := by decide +kernel
theorem dX2_advance_35 : decode cX2_advance 35 = .ok (.aload_n 0, 1) := by decide +kernel
theorem dX2_advance_36 : decode cX2_advance 36 = .ok (.aload_n 0, 1) := by decide +kernel
theorem dX2_advance_37 : decode cX2_advance 37 = .ok (.getfield 33, 3) := by decide +kernel
theorem dX2_advance_40 : decode cX2_advance 40 = .ok (.iload_n 2, 1) := by decide +kernel
theorem dX2_advance_41 : decode cX2_advance 41 = .ok (.iconst 4, 1) := by decide +kernel
theorem dX2_advance_42 : decode cX2_advance 42 = .ok (.invokestatic 86, 3) := by decide +kernel
theorem dX2_advance_45 : decode cX2_advance 45 = .ok (.putfield 33, 3) := by decide +kernel
theorem dX2_advance_48 : decode cX2_advance 48 = .ok (.aload_n 0, 1) := by decide +kernel
theorem dX2_advance_49 : decode cX2_advance 49 = .ok (.iload_n 2, 1) := by decide +kernel
theorem dX2_advance_50 : decode cX2_advance 50 = .ok (.invokevirtual 90, 3) := by decide +kernel
theorem dX2_advance_53 : decode cX2_advance 53 = .ok (.aload_n 0, 1) := by decide +kernel
theorem dX2_advance_54 : decode cX2_advance 54 = .ok (.getfield 15, 3) := by decide +kernel
theorem dX2_advance_57 : decode cX2_advance 57 = .ok (.istore_n 3, 1) := by decide +kernel
theorem dX2_advance_58 : decode cX2_advance 58 = .ok (.aload_n 0, 1) := by decide +kernel
theorem dX2_advance_59 : decode cX2_advance 59 = .ok (.iload_n 2, 1) := by decide +kernel
theorem dX2_advance_60 : decode cX2_advance 60 = .ok (.invokevirtual 94, 3) := by decide +kernel
theorem dX2_advance_63 : decode cX2_advance 63 = .ok (.aload_n 0, 1) := by decide +kernel
theorem dX2_advance_64 : decode cX2_advance 64 = .ok (.getfield 15, 3) := by decide +kernel
theorem dX2_advance_67 : decode cX2_advance 67 = .ok (.iconst 2, 1) := by decide +kernel
theorem dX2_advance_68 : decode cX2_advance 68 = .ok (.if_icmp .ne 12, 3) := by decide +kernel
theorem dX2_advance_71 : decode cX2_advance 71 = .ok (.iload_n 3, 1) := by decide +kernel
theorem dX2_advance_72 : decode cX2_advance 72 = .ok (.iconst 2, 1) := by decide +kernel
theorem dX2_advance_73 : decode cX2_advance 73 = .ok (.if_icmp .eq 7, 3) := by decide +kernel
theorem dX2_advance_76 : decode cX2_advance 76 = .ok (.iconst 1, 1) := by decide +kernel
theorem dX2_advance_77 : decode cX2_advance 77 = .ok (.goto 4, 3) := by decide +kernel
theorem dX2_advance_80 : decode cX2_advance 80 = .ok (.iconst 0, 1) := by decide +kernel
theorem dX2_advance_81 : decode cX2_advance 81 = .ok (.istore 4, 2) := by decide +kernel
theorem dX2_advance_83 : decode cX2_advance 83 = .ok (.aload_n 0, 1) := by decide +kernel
theorem dX2_advance_84 : decode cX2_advance 84 = .ok (.aload_n 0, 1) := by decide +kernel
theorem dX2_advance_85 : decode cX2_advance 85 = .ok (.getfield 64, 3) := by decide +kernel
theorem dX2_advance_88 : decode cX2_advance 88 = .ok (.aload_n 0, 1) := by decide +kernel
theorem dX2_advance_89 : decode cX2_advance 89 = .ok (.getfield 39, 3) := by decide +kernel
theorem dX2_advance_92 : decode cX2_advance 92 = .ok (.invokevirtual 97, 3) := by decide +kernel
theorem dX2_advance_95 : decode cX2_advance 95 = .ok (.ifCond .eq 7, 3) := by decide +kernel
theorem dX2_advance_98 : decode cX2_advance 98 = .ok (.iconst 0, 1) := by decide +kernel
theorem dX2_advance_99 : decode cX2_advance 99 = .ok (.goto 10, 3) := by decide +kernel
theorem dX2_advance_102 : decode cX2_advance 102 = .ok (.aload_n 0, 1) := by decide +kernel
theorem dX2_advance_103 : decode cX2_advance 103 = .ok (.getfield 36, 3) := by decide +kernel
theorem dX2_advance_106 : decode cX2_advance 106 = .ok (.invokestatic 101, 3) := by decide +kernel
theorem dX2_advance_109 : decode cX2_advance 109 = .ok (.putfield 36, 3) := by decide +kernel
theorem dX2_advance_112 : decode cX2_advance 112 = .ok (.iload_n 2, 1) := by decide +kernel
theorem dX2_advance_113 : decode cX2_advance 113 = .ok (.iconst 4, 1) := by decide +kernel
theorem dX2_advance_114 : decode cX2_advance 114 = .ok (.invokestatic 104, 3) := by decide +kernel
theorem dX2_advance_117 : decode cX2_advance 117 = .ok (.iconst 2, 1) := by decide +kernel
theorem dX2_advance_118 : decode cX2_advance 118 = .ok (.if_icmp .eq 14, 3) := by decide +kernel
theorem dX2_advance_121 : decode cX2_advance 121 = .ok (.aload_n 0, 1) := by decide +kernel
theorem dX2_advance_122 : decode cX2_advance 122 = .ok (.invokevirtual 108, 3) := by decide +kernel
theorem dX2_advance_125 : decode cX2_advance 125 = .ok (.ifCond .ne 7, 3) := by decide +kernel
theorem dX2_advance_128 : decode cX2_advance 128 = .ok (.iconst 1, 1) := by decide +kernel
theorem dX2_advance_129 : decode cX2_advance 129 = .ok (.goto 4, 3) := by decide +kernel
theorem dX2_advance_132 : decode cX2_advance 132 = .ok (.iconst 0, 1) := by decide +kernel
theorem dX2_advance_133 : decode cX2_advance 133 = .ok (.istore 5, 2) := by decide +kernel
theorem dX2_advance_135 : decode cX2_advance 135 = .ok (.aload_n 0, 1) := by decide +kernel
theorem dX2_advance_136 : decode cX2_advance 136 = .ok (.iload_n 2, 1) := by decide +kernel
theorem dX2_advance_137 : decode cX2_advance 137 = .ok (.iload 4, 2) := by decide +kernel
theorem dX2_advance_139 : decode cX2_advance 139 = .ok (.iload 5, 2) := by decide +kernel
theorem dX2_advance_141 : decode cX2_advance 141 = .ok (.invokevirtual 112, 3) := by decide +kernel
theorem dX2_advance_144 : decode cX2_advance 144 = .ok (.aload_n 0, 1) := by decide +kernel
theorem dX2_advance_145 : decode cX2_advance 145 = .ok (.aload_n 0, 1) := by decide +kernel
theorem dX2_advance_146 : decode cX2_advance 146 = .ok (.getfield 9, 3) := by decide +kernel
theorem dX2_advance_149 : decode cX2_advance 149 = .ok (.iconst 2, 1) := by decide +kernel
theorem dX2_advance_150 : decode cX2_advance 150 = .ok (.if_icmp .eq 11, 3) := by decide +kernel
theorem dX2_advance_153 : decode cX2_advance 153 = .ok (.aload_n 0, 1) := by decide +kernel
theorem dX2_advance_154 : decode cX2_advance 154 = .ok (.getfield 9, 3) := by decide +kernel
theorem dX2_advance_157 : decode cX2_advance 157 = .ok (.iconst 4, 1) := by decide +kernel
theorem dX2_advance_158 : decode cX2_advance 158 = .ok (.if_icmp .ne 7, 3) := by decide +kernel
theorem dX2_advance_161 : decode cX2_advance 161 = .ok (.iconst 1, 1) := by decide +kernel
theorem dX2_advance_162 : decode cX2_advance 162 = .ok (.goto 4, 3) := by decide +kernel
theorem dX2_advance_165 : decode cX2_advance 165 = .ok (.iconst 0, 1) := by decide +kernel
theorem dX2_advance_166 : decode cX2_advance 166 = .ok (.putfield 39, 3) := by decide +kernel
theorem dX2_advance_169 : decode cX2_advance 169 = .ok (.aload_n 0, 1) := by decide +kernel
theorem dX2_advance_170 : decode cX2_advance 170 = .ok (.iload_n 1, 1) := by decide +kernel
theorem dX2_advance_171 : decode cX2_advance 171 = .ok (.invokevirtual 116, 3) := by decide +kernel
theorem dX2_advance_174 : decode cX2_advance 174 = .ok (.aload_n 0, 1) := by decide +kernel
theorem dX2_advance_175 : decode cX2_advance 175 = .ok (.iload_n 2, 1) := by decide +kernel
theorem dX2_advance_176 : decode cX2_advance 176 = .ok (.bipush 8, 2) := by decide +kernel
theorem dX2_advance_178 : decode cX2_advance 178 = .ok (.invokestatic 119, 3) := by decide +kernel
theorem dX2_advance_181 : decode cX2_advance 181 = .ok (.putfield 48, 3) := by decide +kernel
theorem dX2_advance_184 : decode cX2_advance 184 = .ok (.return_, 1) := by decide +kernel
set_option maxRecDepth 20000 in
theorem ggX2_apartThen_X8_pairCount : GoodIn wsX2_apartThen wsX8_pairCount := goodIn_r _ [3, 4, 5, 2, 6] (by decide +kernel) (by decide +kernel)
set_option maxRecDepth 20000 in
theorem gX2_apartThen_X8_pairCount_n104 : GoodIn wsX2_apartThen (wsX8_pairCount) := ggX2_apartThen_X8_pairCount
set_option maxRecDepth 20000 in
theorem ggX2_apartThen_X2_oneMore : GoodIn wsX2_apartThen wsX2_oneMore := goodIn_r _ [10, 11, 12, 13, 14] (by decide +kernel) (by decide +kernel)
set_option maxRecDepth 20000 in
theorem gX2_apartThen_X2_oneMore : GoodIn wsX2_apartThen (va_wsS RX2 101 yX2_oneMore wsX2_oneMore) := goodIn_app (goodIn_of _ (by decide +kernel)) ggX2_apartThen_X2_oneMore
theorem dX2_apartThen_0 : decode cX2_apartThen 0 = .ok (.iload_n 1, 1) := by decide +kernel
theorem dX2_apartThen_1 : decode cX2_apartThen 1 = .ok (.iload_n 2, 1) := by decide +kernel
theorem dX2_apartThen_2 : decode cX2_apartThen 2 = .ok (.invokestatic 104, 3) := by decide +kernel
theorem dX2_apartThen_5 : decode cX2_apartThen 5 = .ok (.iconst 1, 1) := by decide +kernel
theorem dX2_apartThen_6 : decode cX2_apartThen 6 = .ok (.if_icmp .ne 10, 3) := by decide +kernel
theorem dX2_apartThen_9 : decode cX2_apartThen 9 = .ok (.iload_n 0, 1) := by decide +kernel
theorem dX2_apartThen_10 : decode cX2_apartThen 10 = .ok (.invokestatic 101, 3) := by decide +kernel
theorem dX2_apartThen_13 : decode cX2_apartThen 13 = .ok (.goto 4, 3) := by decide +kernel
theorem dX2_apartThen_16 : decode cX2_apartThen 16 = .ok (.iconst 0, 1) := by decide +kernel
theorem dX2_apartThen_17 : decode cX2_apartThen 17 = .ok (.ireturn, 1) := by decide +kernel
theorem dX2_oneMore_0 : decode cX2_oneMore 0 = .ok (.iload_n 0, 1) := by decide +kernel
theorem dX2_oneMore_1 : decode cX2_oneMore 1 = .ok (.iconst 1, 1) := by decide +kernel
theorem dX2_oneMore_2 : decode cX2_oneMore 2 = .ok (.iadd, 1) := by decide +kernel
theorem dX2_oneMore_3 : decode cX2_oneMore 3 = .ok (.bipush 9, 2) := by decide +kernel
theorem dX2_oneMore_5 : decode cX2_oneMore 5 = .ok (.invokestatic 122, 3) := by decide +kernel
theorem dX2_oneMore_8 : decode cX2_oneMore 8 = .ok (.ireturn, 1) := by decide +kernel
theorem dX2_isMuted_0 : decode cX2_isMuted 0 = .ok (.aload_n 0, 1) := by decide +kernel
theorem dX2_isMuted_1 : decode cX2_isMuted 1 = .ok (.getfield 21, 3) := by decide +kernel
theorem dX2_isMuted_4 : decode cX2_isMuted 4 = .ok (.iconst 2, 1) := by decide +kernel
theorem dX2_isMuted_5 : decode cX2_isMuted 5 = .ok (.if_icmp .eq 11, 3) := by decide +kernel
theorem dX2_isMuted_8 : decode cX2_isMuted 8 = .ok (.aload_n 0, 1) := by decide +kernel
theorem dX2_isMuted_9 : decode cX2_isMuted 9 = .ok (.getfield 21, 3) := by decide +kernel
theorem dX2_isMuted_12 : decode cX2_isMuted 12 = .ok (.iconst 3, 1) := by decide +kernel
theorem dX2_isMuted_13 : decode cX2_isMuted 13 = .ok (.if_icmp .ne 7, 3) := by decide +kernel
theorem dX2_isMuted_16 : decode cX2_isMuted 16 = .ok (.iconst 1, 1) := by decide +kernel
theorem dX2_isMuted_17 : decode cX2_isMuted 17 = .ok (.goto 4, 3) := by decide +kernel
theorem dX2_isMuted_20 : decode cX2_isMuted 20 = .ok (.iconst 0, 1) := by decide +kernel
theorem dX2_isMuted_21 : decode cX2_isMuted 21 = .ok (.ireturn, 1) := by decide +kernel
set_option maxRecDepth 20000 in
theorem ggX2_moveMuting_X8_bit : GoodIn wsX2_moveMuting wsX8_bit := goodIn_r _ [7] (by decide +kernel) (by decide +kernel)
set_option maxRecDepth 20000 in
theorem gX2_moveMuting_X8_bit_n119 : GoodIn wsX2_moveMuting (wsX8_bit) := ggX2_moveMuting_X8_bit
set_option maxRecDepth 20000 in
theorem ggX2_moveMuting_X2_mutingThen : GoodIn wsX2_moveMuting wsX2_mutingThen := goodIn_r _ [12, 1, 13, 14, 15, 11, 16, 17, 18, 19, 20, 21, 22, 23, 24, 25, 26, 27, 28, 29, 30, 31, 32, 33, 34] (by decide +kernel) (by decide +kernel)
set_option maxRecDepth 20000 in
theorem gX2_moveMuting_X2_mutingThen : GoodIn wsX2_moveMuting (wsV RX2 127 RX2 yX2_mutingThen wsX2_mutingThen) := goodIn_app (goodIn_of _ (by decide +kernel)) ggX2_moveMuting_X2_mutingThen
set_option maxRecDepth 20000 in
theorem ggX2_moveMuting_X2_isMuted : GoodIn wsX2_moveMuting wsX2_isMuted := goodIn_r _ [16, 1, 17, 18, 19, 20, 21, 22, 23, 24, 25, 26, 27, 28, 29, 30, 31, 32, 33, 34] (by decide +kernel) (by decide +kernel)
set_option maxRecDepth 20000 in
theorem gX2_moveMuting_X2_isMuted : GoodIn wsX2_moveMuting (wsV RX2 108 RX2 yX2_isMuted wsX2_isMuted) := goodIn_app (goodIn_of _ (by decide +kernel)) ggX2_moveMuting_X2_isMuted
theorem dX2_moveMuting_0 : decode cX2_moveMuting 0 = .ok (.aload_n 0, 1) := by decide +kernel
theorem dX2_moveMuting_1 : decode cX2_moveMuting 1 = .ok (.aload_n 0, 1) := by decide +kernel
theorem dX2_moveMuting_2 : decode cX2_moveMuting 2 = .ok (.iload_n 1, 1) := by decide +kernel
theorem dX2_moveMuting_3 : decode cX2_moveMuting 3 = .ok (.bipush 6, 2) := by decide +kernel
theorem dX2_moveMuting_5 : decode cX2_moveMuting 5 = .ok (.invokestatic 119, 3) := by decide +kernel
theorem dX2_moveMuting_8 : decode cX2_moveMuting 8 = .ok (.iconst 1, 1) := by decide +kernel
theorem dX2_moveMuting_9 : decode cX2_moveMuting 9 = .ok (.if_icmp .ne 7, 3) := by decide +kernel
theorem dX2_moveMuting_12 : decode cX2_moveMuting 12 = .ok (.iconst 1, 1) := by decide +kernel
theorem dX2_moveMuting_13 : decode cX2_moveMuting 13 = .ok (.goto 4, 3) := by decide +kernel
theorem dX2_moveMuting_16 : decode cX2_moveMuting 16 = .ok (.iconst 0, 1) := by decide +kernel
theorem dX2_moveMuting_17 : decode cX2_moveMuting 17 = .ok (.iload_n 1, 1) := by decide +kernel
theorem dX2_moveMuting_18 : decode cX2_moveMuting 18 = .ok (.bipush 7, 2) := by decide +kernel
theorem dX2_moveMuting_20 : decode cX2_moveMuting 20 = .ok (.invokestatic 119, 3) := by decide +kernel
theorem dX2_moveMuting_23 : decode cX2_moveMuting 23 = .ok (.iconst 1, 1) := by decide +kernel
theorem dX2_moveMuting_24 : decode cX2_moveMuting 24 = .ok (.if_icmp .ne 7, 3) := by decide +kernel
theorem dX2_moveMuting_27 : decode cX2_moveMuting 27 = .ok (.iconst 1, 1) := by decide +kernel
theorem dX2_moveMuting_28 : decode cX2_moveMuting 28 = .ok (.goto 4, 3) := by decide +kernel
theorem dX2_moveMuting_31 : decode cX2_moveMuting 31 = .ok (.iconst 0, 1) := by decide +kernel
theorem dX2_moveMuting_32 : decode cX2_moveMuting 32 = .ok (.invokevirtual 127, 3) := by decide +kernel
theorem dX2_moveMuting_35 : decode cX2_moveMuting 35 = .ok (.putfield 21, 3) := by decide +kernel
theorem dX2_moveMuting_38 : decode cX2_moveMuting 38 = .ok (.aload_n 0, 1) := by decide +kernel
theorem dX2_moveMuting_39 : decode cX2_moveMuting 39 = .ok (.aload_n 0, 1) := by decide +kernel
theorem dX2_moveMuting_40 : decode cX2_moveMuting 40 = .ok (.invokevirtual 108, 3) := by decide +kernel
theorem dX2_moveMuting_43 : decode cX2_moveMuting 43 = .ok (.ifCond .eq 12, 3) := by decide +kernel
theorem dX2_moveMuting_46 : decode cX2_moveMuting 46 = .ok (.aload_n 0, 1) := by decide +kernel
theorem dX2_moveMuting_47 : decode cX2_moveMuting 47 = .ok (.getfield 24, 3) := by decide +kernel
theorem dX2_moveMuting_50 : decode cX2_moveMuting 50 = .ok (.iconst 1, 1) := by decide +kernel
theorem dX2_moveMuting_51 : decode cX2_moveMuting 51 = .ok (.iadd, 1) := by decide +kernel
theorem dX2_moveMuting_52 : decode cX2_moveMuting 52 = .ok (.goto 4, 3) := by decide +kernel
theorem dX2_moveMuting_55 : decode cX2_moveMuting 55 = .ok (.iconst 0, 1) := by decide +kernel
theorem dX2_moveMuting_56 : decode cX2_moveMuting 56 = .ok (.putfield 24, 3) := by decide +kernel
theorem dX2_moveMuting_59 : decode cX2_moveMuting 59 = .ok (.aload_n 0, 1) := by decide +kernel
theorem dX2_moveMuting_60 : decode cX2_moveMuting 60 = .ok (.getfield 24, 3) := by decide +kernel
theorem dX2_moveMuting_63 : decode cX2_moveMuting 63 = .ok (.aload_n 0, 1) := by decide +kernel
theorem dX2_moveMuting_64 : decode cX2_moveMuting 64 = .ok (.getfield 60, 3) := by decide +kernel
theorem dX2_moveMuting_67 : decode cX2_moveMuting 67 = .ok (.getfield 131, 3) := by decide +kernel
theorem dX2_moveMuting_70 : decode cX2_moveMuting 70 = .ok (.if_icmp .le 13, 3) := by decide +kernel
theorem dX2_moveMuting_73 : decode cX2_moveMuting 73 = .ok (.aload_n 0, 1) := by decide +kernel
theorem dX2_moveMuting_74 : decode cX2_moveMuting 74 = .ok (.iconst 4, 1) := by decide +kernel
theorem dX2_moveMuting_75 : decode cX2_moveMuting 75 = .ok (.putfield 21, 3) := by decide +kernel
theorem dX2_moveMuting_78 : decode cX2_moveMuting 78 = .ok (.aload_n 0, 1) := by decide +kernel
theorem dX2_moveMuting_79 : decode cX2_moveMuting 79 = .ok (.iconst 0, 1) := by decide +kernel
theorem dX2_moveMuting_80 : decode cX2_moveMuting 80 = .ok (.putfield 24, 3) := by decide +kernel
theorem dX2_moveMuting_83 : decode cX2_moveMuting 83 = .ok (.return_, 1) := by decide +kernel
set_option maxRecDepth 20000 in
theorem ggX2_mutingThen_X2_isMuted : GoodIn wsX2_mutingThen wsX2_isMuted := goodIn_r _ [6, 1, 7, 8, 9, 10, 11, 12, 13, 14, 15, 16, 17, 18, 19, 20, 21, 22, 23, 24] (by decide +kernel) (by decide +kernel)
set_option maxRecDepth 20000 in
theorem gX2_mutingThen_X2_isMuted : GoodIn wsX2_mutingThen (wsV RX2 108 RX2 yX2_isMuted wsX2_isMuted) := goodIn_app (goodIn_of _ (by decide +kernel)) ggX2_mutingThen_X2_isMuted
theorem dX2_mutingThen_0 : decode cX2_mutingThen 0 = .ok (.iload_n 1, 1) := by decide +kernel
theorem dX2_mutingThen_1 : decode cX2_mutingThen 1 = .ok (.ifCond .eq 28, 3) := by decide +kernel
theorem dX2_mutingThen_4 : decode cX2_mutingThen 4 = .ok (.iload_n 2, 1) := by decide +kernel
theorem dX2_mutingThen_5 : decode cX2_mutingThen 5 = .ok (.ifCond .eq 24, 3) := by decide +kernel
theorem dX2_mutingThen_8 : decode cX2_mutingThen 8 = .ok (.aload_n 0, 1) := by decide +kernel
theorem dX2_mutingThen_9 : decode cX2_mutingThen 9 = .ok (.getfield 21, 3) := by decide +kernel
theorem dX2_mutingThen_12 : decode cX2_mutingThen 12 = .ok (.ifCond .eq 11, 3) := by decide +kernel
theorem dX2_mutingThen_15 : decode cX2_mutingThen 15 = .ok (.aload_n 0, 1) := by decide +kernel
theorem dX2_mutingThen_16 : decode cX2_mutingThen 16 = .ok (.getfield 21, 3) := by decide +kernel
theorem dX2_mutingThen_19 : decode cX2_mutingThen 19 = .ok (.iconst 4, 1) := by decide +kernel
theorem dX2_mutingThen_20 : decode cX2_mutingThen 20 = .ok (.if_icmp .ne 7, 3) := by decide +kernel
theorem dX2_mutingThen_23 : decode cX2_mutingThen 23 = .ok (.iconst 4, 1) := by decide +kernel
theorem dX2_mutingThen_24 : decode cX2_mutingThen 24 = .ok (.goto 4, 3) := by decide +kernel
theorem dX2_mutingThen_27 : decode cX2_mutingThen 27 = .ok (.iconst 2, 1) := by decide +kernel
theorem dX2_mutingThen_28 : decode cX2_mutingThen 28 = .ok (.ireturn, 1) := by decide +kernel
theorem dX2_mutingThen_29 : decode cX2_mutingThen 29 = .ok (.iload_n 1, 1) := by decide +kernel
theorem dX2_mutingThen_30 : decode cX2_mutingThen 30 = .ok (.ifCond .eq 25, 3) := by decide +kernel
theorem dX2_mutingThen_33 : decode cX2_mutingThen 33 = .ok (.aload_n 0, 1) := by decide +kernel
theorem dX2_mutingThen_34 : decode cX2_mutingThen 34 = .ok (.getfield 21, 3) := by decide +kernel
theorem dX2_mutingThen_37 : decode cX2_mutingThen 37 = .ok (.iconst 3, 1) := by decide +kernel
theorem dX2_mutingThen_38 : decode cX2_mutingThen 38 = .ok (.if_icmp .eq 11, 3) := by decide +kernel
theorem dX2_mutingThen_41 : decode cX2_mutingThen 41 = .ok (.aload_n 0, 1) := by decide +kernel
theorem dX2_mutingThen_42 : decode cX2_mutingThen 42 = .ok (.getfield 21, 3) := by decide +kernel
theorem dX2_mutingThen_45 : decode cX2_mutingThen 45 = .ok (.iconst 4, 1) := by decide +kernel
theorem dX2_mutingThen_46 : decode cX2_mutingThen 46 = .ok (.if_icmp .ne 7, 3) := by decide +kernel
theorem dX2_mutingThen_49 : decode cX2_mutingThen 49 = .ok (.iconst 4, 1) := by decide +kernel
theorem dX2_mutingThen_50 : decode cX2_mutingThen 50 = .ok (.goto 4, 3) := by decide +kernel
theorem dX2_mutingThen_53 : decode cX2_mutingThen 53 = .ok (.iconst 1, 1) := by decide +kernel
theorem dX2_mutingThen_54 : decode cX2_mutingThen 54 = .ok (.ireturn, 1) := by decide +kernel
theorem dX2_mutingThen_55 : decode cX2_mutingThen 55 = .ok (.iload_n 2, 1) := by decide +kernel
theorem dX2_mutingThen_56 : decode cX2_mutingThen 56 = .ok (.ifCond .eq 16, 3) := by decide +kernel
theorem dX2_mutingThen_59 : decode cX2_mutingThen 59 = .ok (.aload_n 0, 1) := by decide +kernel
theorem dX2_mutingThen_60 : decode cX2_mutingThen 60 = .ok (.invokevirtual 108, 3) := by decide +kernel
theorem dX2_mutingThen_63 : decode cX2_mutingThen 63 = .ok (.ifCond .eq 7, 3) := by decide +kernel
theorem dX2_mutingThen_66 : decode cX2_mutingThen 66 = .ok (.iconst 3, 1) := by decide +kernel
theorem dX2_mutingThen_67 : decode cX2_mutingThen 67 = .ok (.goto 4, 3) := by decide +kernel
theorem dX2_mutingThen_70 : decode cX2_mutingThen 70 = .ok (.iconst 4, 1) := by decide +kernel
theorem dX2_mutingThen_71 : decode cX2_mutingThen 71 = .ok (.ireturn, 1) := by decide +kernel
theorem dX2_mutingThen_72 : decode cX2_mutingThen 72 = .ok (.aload_n 0, 1) := by decide +kernel
theorem dX2_mutingThen_73 : decode cX2_mutingThen 73 = .ok (.getfield 21, 3) := by decide +kernel
theorem dX2_mutingThen_76 : decode cX2_mutingThen 76 = .ok (.iconst 2, 1) := by decide +kernel
theorem dX2_mutingThen_77 : decode cX2_mutingThen 77 = .ok (.if_icmp .ne 7, 3) := by decide +kernel
theorem dX2_mutingThen_80 : decode cX2_mutingThen 80 = .ok (.iconst 4, 1) := by decide +kernel
theorem dX2_mutingThen_81 : decode cX2_mutingThen 81 = .ok (.goto 4, 3) := by decide +kernel
theorem dX2_mutingThen_84 : decode cX2_mutingThen 84 = .ok (.iconst 0, 1) := by decide +kernel
theorem dX2_mutingThen_85 : decode cX2_mutingThen 85 = .ok (.ireturn, 1) := by decide +kernel
set_option maxRecDepth 20000 in
theorem ggX2_moveHands_X8_pairCount : GoodIn wsX2_moveHands wsX8_pairCount := goodIn_r _ [5, 6, 7, 4, 8] (by decide +kernel) (by decide +kernel)
set_option maxRecDepth 20000 in
theorem gX2_moveHands_X8_pairCount_n104 : GoodIn wsX2_moveHands (wsX8_pairCount) := ggX2_moveHands_X8_pairCount
set_option maxRecDepth 20000 in
theorem ggX2_moveHands_X2_handsThen : GoodIn wsX2_moveHands wsX2_handsThen := goodIn_r _ [13, 1, 14, 15, 16, 17, 18, 19, 20, 21, 22, 23, 24, 25, 26, 27, 28, 29, 30, 31, 32, 33, 34, 35, 36, 37, 38] (by decide +kernel) (by decide +kernel)
set_option maxRecDepth 20000 in
theorem gX2_moveHands_X2_handsThen : GoodIn wsX2_moveHands (wsV RX2 136 RX2 yX2_handsThen wsX2_handsThen) := goodIn_app (goodIn_of _ (by decide +kernel)) ggX2_moveHands_X2_handsThen
theorem dX2_moveHands_0 : decode cX2_moveHands 0 = .ok (.iload_n 1, 1) := by decide +kernel
theorem dX2_moveHands_1 : decode cX2_moveHands 1 = .ok (.iconst 0, 1) := by decide +kernel
theorem dX2_moveHands_2 : decode cX2_moveHands 2 = .ok (.invokestatic 104, 3) := by decide +kernel
theorem dX2_moveHands_5 : decode cX2_moveHands 5 = .ok (.iconst 2, 1) := by decide +kernel
theorem dX2_moveHands_6 : decode cX2_moveHands 6 = .ok (.idiv, 1) := by decide +kernel
theorem dX2_moveHands_7 : decode cX2_moveHands 7 = .ok (.iload_n 1, 1) := by decide +kernel
theorem dX2_moveHands_8 : decode cX2_moveHands 8 = .ok (.iconst 2, 1) := by decide +kernel
theorem dX2_moveHands_9 : decode cX2_moveHands 9 = .ok (.invokestatic 104, 3) := by decide +kernel
theorem dX2_moveHands_12 : decode cX2_moveHands 12 = .ok (.iconst 2, 1) := by decide +kernel
theorem dX2_moveHands_13 : decode cX2_moveHands 13 = .ok (.idiv, 1) := by decide +kernel
theorem dX2_moveHands_14 : decode cX2_moveHands 14 = .ok (.iadd, 1) := by decide +kernel
theorem dX2_moveHands_15 : decode cX2_moveHands 15 = .ok (.istore_n 2, 1) := by decide +kernel
theorem dX2_moveHands_16 : decode cX2_moveHands 16 = .ok (.aload_n 0, 1) := by decide +kernel
theorem dX2_moveHands_17 : decode cX2_moveHands 17 = .ok (.getfield 15, 3) := by decide +kernel
theorem dX2_moveHands_20 : decode cX2_moveHands 20 = .ok (.iconst 1, 1) := by decide +kernel
theorem dX2_moveHands_21 : decode cX2_moveHands 21 = .ok (.if_icmp .ne 12, 3) := by decide +kernel
theorem dX2_moveHands_24 : decode cX2_moveHands 24 = .ok (.aload_n 0, 1) := by decide +kernel
theorem dX2_moveHands_25 : decode cX2_moveHands 25 = .ok (.getfield 18, 3) := by decide +kernel
theorem dX2_moveHands_28 : decode cX2_moveHands 28 = .ok (.iconst 1, 1) := by decide +kernel
theorem dX2_moveHands_29 : decode cX2_moveHands 29 = .ok (.iadd, 1) := by decide +kernel
theorem dX2_moveHands_30 : decode cX2_moveHands 30 = .ok (.goto 4, 3) := by decide +kernel
theorem dX2_moveHands_33 : decode cX2_moveHands 33 = .ok (.iconst 1, 1) := by decide +kernel
theorem dX2_moveHands_34 : decode cX2_moveHands 34 = .ok (.istore_n 3, 1) := by decide +kernel
theorem dX2_moveHands_35 : decode cX2_moveHands 35 = .ok (.aload_n 0, 1) := by decide +kernel
theorem dX2_moveHands_36 : decode cX2_moveHands 36 = .ok (.aload_n 0, 1) := by decide +kernel
theorem dX2_moveHands_37 : decode cX2_moveHands 37 = .ok (.iload_n 2, 1) := by decide +kernel
theorem dX2_moveHands_38 : decode cX2_moveHands 38 = .ok (.iload_n 3, 1) := by decide +kernel
theorem dX2_moveHands_39 : decode cX2_moveHands 39 = .ok (.invokevirtual 136, 3) := by decide +kernel
theorem dX2_moveHands_42 : decode cX2_moveHands 42 = .ok (.putfield 15, 3) := by decide +kernel
theorem dX2_moveHands_45 : decode cX2_moveHands 45 = .ok (.aload_n 0, 1) := by decide +kernel
theorem dX2_moveHands_46 : decode cX2_moveHands 46 = .ok (.aload_n 0, 1) := by decide +kernel
theorem dX2_moveHands_47 : decode cX2_moveHands 47 = .ok (.getfield 15, 3) := by decide +kernel
theorem dX2_moveHands_50 : decode cX2_moveHands 50 = .ok (.iconst 1, 1) := by decide +kernel
theorem dX2_moveHands_51 : decode cX2_moveHands 51 = .ok (.if_icmp .ne 7, 3) := by decide +kernel
theorem dX2_moveHands_54 : decode cX2_moveHands 54 = .ok (.iload_n 3, 1) := by decide +kernel
theorem dX2_moveHands_55 : decode cX2_moveHands 55 = .ok (.goto 4, 3) := by decide +kernel
theorem dX2_moveHands_58 : decode cX2_moveHands 58 = .ok (.iconst 0, 1) := by decide +kernel
theorem dX2_moveHands_59 : decode cX2_moveHands 59 = .ok (.putfield 18, 3) := by decide +kernel
theorem dX2_moveHands_62 : decode cX2_moveHands 62 = .ok (.return_, 1) := by decide +kernel
theorem dX2_handsThen_0 : decode cX2_handsThen 0 = .ok (.iload_n 1, 1) := by decide +kernel
theorem dX2_handsThen_1 : decode cX2_handsThen 1 = .ok (.ifCond .ne 5, 3) := by decide +kernel
theorem dX2_handsThen_4 : decode cX2_handsThen 4 = .ok (.iconst 0, 1) := by decide +kernel
theorem dX2_handsThen_5 : decode cX2_handsThen 5 = .ok (.ireturn, 1) := by decide +kernel
theorem dX2_handsThen_6 : decode cX2_handsThen 6 = .ok (.aload_n 0, 1) := by decide +kernel
theorem dX2_handsThen_7 : decode cX2_handsThen 7 = .ok (.getfield 15, 3) := by decide +kernel
theorem dX2_handsThen_10 : decode cX2_handsThen 10 = .ok (.iconst 3, 1) := by decide +kernel
theorem dX2_handsThen_11 : decode cX2_handsThen 11 = .ok (.if_icmp .ne 5, 3) := by decide +kernel
theorem dX2_handsThen_14 : decode cX2_handsThen 14 = .ok (.iconst 3, 1) := by decide +kernel
theorem dX2_handsThen_15 : decode cX2_handsThen 15 = .ok (.ireturn, 1) := by decide +kernel
theorem dX2_handsThen_16 : decode cX2_handsThen 16 = .ok (.iload_n 1, 1) := by decide +kernel
theorem dX2_handsThen_17 : decode cX2_handsThen 17 = .ok (.iconst 2, 1) := by decide +kernel
theorem dX2_handsThen_18 : decode cX2_handsThen 18 = .ok (.if_icmp .ne 5, 3) := by decide +kernel
theorem dX2_handsThen_21 : decode cX2_handsThen 21 = .ok (.iconst 2, 1) := by decide +kernel
theorem dX2_handsThen_22 : decode cX2_handsThen 22 = .ok (.ireturn, 1) := by decide +kernel
theorem dX2_handsThen_23 : decode cX2_handsThen 23 = .ok (.aload_n 0, 1) := by decide +kernel
theorem dX2_handsThen_24 : decode cX2_handsThen 24 = .ok (.getfield 15, 3) := by decide +kernel
theorem dX2_handsThen_27 : decode cX2_handsThen 27 = .ok (.iconst 2, 1) := by decide +kernel
theorem dX2_handsThen_28 : decode cX2_handsThen 28 = .ok (.if_icmp .eq 14, 3) := by decide +kernel
theorem dX2_handsThen_31 : decode cX2_handsThen 31 = .ok (.iload_n 2, 1) := by decide +kernel
theorem dX2_handsThen_32 : decode cX2_handsThen 32 = .ok (.aload_n 0, 1) := by decide +kernel
theorem dX2_handsThen_33 : decode cX2_handsThen 33 = .ok (.getfield 60, 3) := by decide +kernel
theorem dX2_handsThen_36 : decode cX2_handsThen 36 = .ok (.getfield 139, 3) := by decide +kernel
theorem dX2_handsThen_39 : decode cX2_handsThen 39 = .ok (.if_icmp .le 7, 3) := by decide +kernel
theorem dX2_handsThen_42 : decode cX2_handsThen 42 = .ok (.iconst 3, 1) := by decide +kernel
theorem dX2_handsThen_43 : decode cX2_handsThen 43 = .ok (.goto 4, 3) := by decide +kernel
theorem dX2_handsThen_46 : decode cX2_handsThen 46 = .ok (.iconst 1, 1) := by decide +kernel
theorem dX2_handsThen_47 : decode cX2_handsThen 47 = .ok (.ireturn, 1) := by decide +kernel
end
section
theorem dX2_leastCause_0 : decode cX2_leastCause 0 = .ok (.aload_n 0, 1) := by decide +kernel
theorem dX2_leastCause_1 : decode cX2_leastCause 1 = .ok (.getfield 27, 3) := by decide +kernel
theorem dX2_leastCause_4 : decode cX2_leastCause 4 = .ok (.aload_n 0, 1) := by decide +kernel
theorem dX2_leastCause_5 : decode cX2_leastCause 5 = .ok (.getfield 60, 3) := by decide +kernel
theorem dX2_leastCause_8 : decode cX2_leastCause 8 = .ok (.getfield 142, 3) := by decide +kernel
theorem dX2_leastCause_11 : decode cX2_leastCause 11 = .ok (.if_icmp .le 5, 3) := by decide +kernel
theorem dX2_leastCause_14 : decode cX2_leastCause 14 = .ok (.iconst 1, 1) := by decide +kernel
theorem dX2_leastCause_15 : decode cX2_leastCause 15 = .ok (.ireturn, 1) := by decide +kernel
theorem dX2_leastCause_16 : decode cX2_leastCause 16 = .ok (.aload_n 0, 1) := by decide +kernel
theorem dX2_leastCause_17 : decode cX2_leastCause 17 = .ok (.getfield 30, 3) := by decide +kernel
theorem dX2_leastCause_20 : decode cX2_leastCause 20 = .ok (.aload_n 0, 1) := by decide +kernel
theorem dX2_leastCause_21 : decode cX2_leastCause 21 = .ok (.getfield 60, 3) := by decide +kernel
theorem dX2_leastCause_24 : decode cX2_leastCause 24 = .ok (.getfield 142, 3) := by decide +kernel
theorem dX2_leastCause_27 : decode cX2_leastCause 27 = .ok (.if_icmp .le 5, 3) := by decide +kernel
theorem dX2_leastCause_30 : decode cX2_leastCause 30 = .ok (.iconst 2, 1) := by decide +kernel
theorem dX2_leastCause_31 : decode cX2_leastCause 31 = .ok (.ireturn, 1) := by decide +kernel
theorem dX2_leastCause_32 : decode cX2_leastCause 32 = .ok (.aload_n 0, 1) := by decide +kernel
theorem dX2_leastCause_33 : decode cX2_leastCause 33 = .ok (.getfield 33, 3) := by decide +kernel
theorem dX2_leastCause_36 : decode cX2_leastCause 36 = .ok (.aload_n 0, 1) := by decide +kernel
theorem dX2_leastCause_37 : decode cX2_leastCause 37 = .ok (.getfield 60, 3) := by decide +kernel
theorem dX2_leastCause_40 : decode cX2_leastCause 40 = .ok (.getfield 142, 3) := by decide +kernel
theorem dX2_leastCause_43 : decode cX2_leastCause 43 = .ok (.if_icmp .le 5, 3) := by decide +kernel
theorem dX2_leastCause_46 : decode cX2_leastCause 46 = .ok (.iconst 3, 1) := by decide +kernel
theorem dX2_leastCause_47 : decode cX2_leastCause 47 = .ok (.ireturn, 1) := by decide +kernel
theorem dX2_leastCause_48 : decode cX2_leastCause 48 = .ok (.aload_n 0, 1) := by decide +kernel
theorem dX2_leastCause_49 : decode cX2_leastCause 49 = .ok (.getfield 36, 3) := by decide +kernel
theorem dX2_leastCause_52 : decode cX2_leastCause 52 = .ok (.iconst 1, 1) := by decide +kernel
theorem dX2_leastCause_53 : decode cX2_leastCause 53 = .ok (.if_icmp .le 5, 3) := by decide +kernel
theorem dX2_leastCause_56 : decode cX2_leastCause 56 = .ok (.iconst 4, 1) := by decide +kernel
theorem dX2_leastCause_57 : decode cX2_leastCause 57 = .ok (.ireturn, 1) := by decide +kernel
theorem dX2_leastCause_58 : decode cX2_leastCause 58 = .ok (.aload_n 0, 1) := by decide +kernel
theorem dX2_leastCause_59 : decode cX2_leastCause 59 = .ok (.getfield 21, 3) := by decide +kernel
theorem dX2_leastCause_62 : decode cX2_leastCause 62 = .ok (.iconst 4, 1) := by decide +kernel
theorem dX2_leastCause_63 : decode cX2_leastCause 63 = .ok (.if_icmp .ne 15, 3) := by decide +kernel
theorem dX2_leastCause_66 : decode cX2_leastCause 66 = .ok (.aload_n 0, 1) := by decide +kernel
theorem dX2_leastCause_67 : decode cX2_leastCause 67 = .ok (.getfield 9, 3) := by decide +kernel
theorem dX2_leastCause_70 : decode cX2_leastCause 70 = .ok (.iconst 2, 1) := by decide +kernel
theorem dX2_leastCause_71 : decode cX2_leastCause 71 = .ok (.if_icmp .ne 7, 3) := by decide +kernel
theorem dX2_leastCause_74 : decode cX2_leastCause 74 = .ok (.iconst 5, 1) := by decide +kernel
theorem dX2_leastCause_75 : decode cX2_leastCause 75 = .ok (.goto 4, 3) := by decide +kernel
theorem dX2_leastCause_78 : decode cX2_leastCause 78 = .ok (.iconst 0, 1) := by decide +kernel
theorem dX2_leastCause_79 : decode cX2_leastCause 79 = .ok (.ireturn, 1) := by decide +kernel
set_option maxRecDepth 20000 in
theorem ggX2_changeMode_X2_leastCause : GoodIn wsX2_changeMode wsX2_leastCause := goodIn_r _ [12, 13, 6, 14, 15, 16, 17, 18, 1, 22, 23, 24, 25, 26, 27, 28, 29, 30, 31, 32, 33, 34, 35, 36, 37, 38, 39, 40, 41, 42, 43, 44] (by decide +kernel) (by decide +kernel)
set_option maxRecDepth 20000 in
theorem gX2_changeMode_X2_leastCause : GoodIn wsX2_changeMode (wsV RX2 145 RX2 yX2_leastCause wsX2_leastCause) := goodIn_app (goodIn_of _ (by decide +kernel)) ggX2_changeMode_X2_leastCause
set_option maxRecDepth 20000 in
theorem ggX2_changeMode_X8_bit : GoodIn wsX2_changeMode wsX8_bit := goodIn_r _ [21] (by decide +kernel) (by decide +kernel)
set_option maxRecDepth 20000 in
theorem gX2_changeMode_X8_bit_n119 : GoodIn wsX2_changeMode (wsX8_bit) := ggX2_changeMode_X8_bit
theorem dX2_changeMode_0 : decode cX2_changeMode 0 = .ok (.aload_n 0, 1) := by decide +kernel
theorem dX2_changeMode_1 : decode cX2_changeMode 1 = .ok (.invokevirtual 145, 3) := by decide +kernel
theorem dX2_changeMode_4 : decode cX2_changeMode 4 = .ok (.istore 4, 2) := by decide +kernel
theorem dX2_changeMode_6 : decode cX2_changeMode 6 = .ok (.iload_n 2, 1) := by decide +kernel
theorem dX2_changeMode_7 : decode cX2_changeMode 7 = .ok (.ifCond .eq 11, 3) := by decide +kernel
theorem dX2_changeMode_10 : decode cX2_changeMode 10 = .ok (.iload_n 3, 1) := by decide +kernel
theorem dX2_changeMode_11 : decode cX2_changeMode 11 = .ok (.ifCond .ne 7, 3) := by decide +kernel
theorem dX2_changeMode_14 : decode cX2_changeMode 14 = .ok (.iconst 1, 1) := by decide +kernel
theorem dX2_changeMode_15 : decode cX2_changeMode 15 = .ok (.goto 4, 3) := by decide +kernel
theorem dX2_changeMode_18 : decode cX2_changeMode 18 = .ok (.iconst 0, 1) := by decide +kernel
theorem dX2_changeMode_19 : decode cX2_changeMode 19 = .ok (.istore 5, 2) := by decide +kernel
theorem dX2_changeMode_21 : decode cX2_changeMode 21 = .ok (.aload_n 0, 1) := by decide +kernel
theorem dX2_changeMode_22 : decode cX2_changeMode 22 = .ok (.getfield 9, 3) := by decide +kernel
theorem dX2_changeMode_25 : decode cX2_changeMode 25 = .ok (.ifCond .ne 67, 3) := by decide +kernel
theorem dX2_changeMode_28 : decode cX2_changeMode 28 = .ok (.aload_n 0, 1) := by decide +kernel
theorem dX2_changeMode_29 : decode cX2_changeMode 29 = .ok (.getfield 48, 3) := by decide +kernel
theorem dX2_changeMode_32 : decode cX2_changeMode 32 = .ok (.iconst 1, 1) := by decide +kernel
theorem dX2_changeMode_33 : decode cX2_changeMode 33 = .ok (.if_icmp .ne 16, 3) := by decide +kernel
theorem dX2_changeMode_36 : decode cX2_changeMode 36 = .ok (.iload_n 1, 1) := by decide +kernel
theorem dX2_changeMode_37 : decode cX2_changeMode 37 = .ok (.bipush 8, 2) := by decide +kernel
theorem dX2_changeMode_39 : decode cX2_changeMode 39 = .ok (.invokestatic 119, 3) := by decide +kernel
theorem dX2_changeMode_42 : decode cX2_changeMode 42 = .ok (.ifCond .ne 7, 3) := by decide +kernel
theorem dX2_changeMode_45 : decode cX2_changeMode 45 = .ok (.iconst 1, 1) := by decide +kernel
theorem dX2_changeMode_46 : decode cX2_changeMode 46 = .ok (.goto 4, 3) := by decide +kernel
theorem dX2_changeMode_49 : decode cX2_changeMode 49 = .ok (.iconst 0, 1) := by decide +kernel
theorem dX2_changeMode_50 : decode cX2_changeMode 50 = .ok (.istore 6, 2) := by decide +kernel
theorem dX2_changeMode_52 : decode cX2_changeMode 52 = .ok (.iload 6, 2) := by decide +kernel
theorem dX2_changeMode_54 : decode cX2_changeMode 54 = .ok (.ifCond .eq 35, 3) := by decide +kernel
theorem dX2_changeMode_57 : decode cX2_changeMode 57 = .ok (.iload 4, 2) := by decide +kernel
theorem dX2_changeMode_59 : decode cX2_changeMode 59 = .ok (.ifCond .ne 30, 3) := by decide +kernel
theorem dX2_changeMode_62 : decode cX2_changeMode 62 = .ok (.aload_n 0, 1) := by decide +kernel
theorem dX2_changeMode_63 : decode cX2_changeMode 63 = .ok (.getfield 15, 3) := by decide +kernel
theorem dX2_changeMode_66 : decode cX2_changeMode 66 = .ok (.ifCond .ne 23, 3) := by decide +kernel
theorem dX2_changeMode_69 : decode cX2_changeMode 69 = .ok (.iload_n 3, 1) := by decide +kernel
theorem dX2_changeMode_70 : decode cX2_changeMode 70 = .ok (.ifCond .ne 19, 3) := by decide +kernel
theorem dX2_changeMode_73 : decode cX2_changeMode 73 = .ok (.aload_n 0, 1) := by decide +kernel
theorem dX2_changeMode_74 : decode cX2_changeMode 74 = .ok (.aload_n 0, 1) := by decide +kernel
theorem dX2_changeMode_75 : decode cX2_changeMode 75 = .ok (.getfield 42, 3) := by decide +kernel
theorem dX2_changeMode_78 : decode cX2_changeMode 78 = .ok (.ifCond .ne 7, 3) := by decide +kernel
theorem dX2_changeMode_81 : decode cX2_changeMode 81 = .ok (.iconst 1, 1) := by decide +kernel
theorem dX2_changeMode_82 : decode cX2_changeMode 82 = .ok (.goto 4, 3) := by decide +kernel
theorem dX2_changeMode_85 : decode cX2_changeMode 85 = .ok (.iconst 3, 1) := by decide +kernel
theorem dX2_changeMode_86 : decode cX2_changeMode 86 = .ok (.putfield 9, 3) := by decide +kernel
theorem dX2_changeMode_89 : decode cX2_changeMode 89 = .ok (.goto 107, 3) := by decide +kernel
theorem dX2_changeMode_92 : decode cX2_changeMode 92 = .ok (.iload 4, 2) := by decide +kernel
theorem dX2_changeMode_94 : decode cX2_changeMode 94 = .ok (.ifCond .eq 17, 3) := by decide +kernel
theorem dX2_changeMode_97 : decode cX2_changeMode 97 = .ok (.aload_n 0, 1) := by decide +kernel
theorem dX2_changeMode_98 : decode cX2_changeMode 98 = .ok (.iconst 0, 1) := by decide +kernel
theorem dX2_changeMode_99 : decode cX2_changeMode 99 = .ok (.putfield 9, 3) := by decide +kernel
theorem dX2_changeMode_102 : decode cX2_changeMode 102 = .ok (.aload_n 0, 1) := by decide +kernel
theorem dX2_changeMode_103 : decode cX2_changeMode 103 = .ok (.iload 4, 2) := by decide +kernel
theorem dX2_changeMode_105 : decode cX2_changeMode 105 = .ok (.putfield 51, 3) := by decide +kernel
theorem dX2_changeMode_108 : decode cX2_changeMode 108 = .ok (.goto 88, 3) := by decide +kernel
theorem dX2_changeMode_111 : decode cX2_changeMode 111 = .ok (.aload_n 0, 1) := by decide +kernel
theorem dX2_changeMode_112 : decode cX2_changeMode 112 = .ok (.getfield 9, 3) := by decide +kernel
theorem dX2_changeMode_115 : decode cX2_changeMode 115 = .ok (.iconst 1, 1) := by decide +kernel
theorem dX2_changeMode_116 : decode cX2_changeMode 116 = .ok (.if_icmp .ne 16, 3) := by decide +kernel
theorem dX2_changeMode_119 : decode cX2_changeMode 119 = .ok (.iload 5, 2) := by decide +kernel
theorem dX2_changeMode_121 : decode cX2_changeMode 121 = .ok (.ifCond .eq 11, 3) := by decide +kernel
theorem dX2_changeMode_124 : decode cX2_changeMode 124 = .ok (.aload_n 0, 1) := by decide +kernel
theorem dX2_changeMode_125 : decode cX2_changeMode 125 = .ok (.iconst 2, 1) := by decide +kernel
theorem dX2_changeMode_126 : decode cX2_changeMode 126 = .ok (.putfield 9, 3) := by decide +kernel
theorem dX2_changeMode_129 : decode cX2_changeMode 129 = .ok (.goto 67, 3) := by decide +kernel
theorem dX2_changeMode_132 : decode cX2_changeMode 132 = .ok (.aload_n 0, 1) := by decide +kernel
theorem dX2_changeMode_133 : decode cX2_changeMode 133 = .ok (.getfield 9, 3) := by decide +kernel
theorem dX2_changeMode_136 : decode cX2_changeMode 136 = .ok (.iconst 2, 1) := by decide +kernel
theorem dX2_changeMode_137 : decode cX2_changeMode 137 = .ok (.if_icmp .ne 23, 3) := by decide +kernel
theorem dX2_changeMode_140 : decode cX2_changeMode 140 = .ok (.iload_n 3, 1) := by decide +kernel
theorem dX2_changeMode_141 : decode cX2_changeMode 141 = .ok (.ifCond .ne 11, 3) := by decide +kernel
theorem dX2_changeMode_144 : decode cX2_changeMode 144 = .ok (.aload_n 0, 1) := by decide +kernel
theorem dX2_changeMode_145 : decode cX2_changeMode 145 = .ok (.getfield 15, 3) := by decide +kernel
theorem dX2_changeMode_148 : decode cX2_changeMode 148 = .ok (.iconst 2, 1) := by decide +kernel
theorem dX2_changeMode_149 : decode cX2_changeMode 149 = .ok (.if_icmp .eq 11, 3) := by decide +kernel
theorem dX2_changeMode_152 : decode cX2_changeMode 152 = .ok (.aload_n 0, 1) := by decide +kernel
theorem dX2_changeMode_153 : decode cX2_changeMode 153 = .ok (.iconst 3, 1) := by decide +kernel
theorem dX2_changeMode_154 : decode cX2_changeMode 154 = .ok (.putfield 9, 3) := by decide +kernel
theorem dX2_changeMode_157 : decode cX2_changeMode 157 = .ok (.goto 39, 3) := by decide +kernel
theorem dX2_changeMode_160 : decode cX2_changeMode 160 = .ok (.aload_n 0, 1) := by decide +kernel
theorem dX2_changeMode_161 : decode cX2_changeMode 161 = .ok (.getfield 9, 3) := by decide +kernel
theorem dX2_changeMode_164 : decode cX2_changeMode 164 = .ok (.iconst 3, 1) := by decide +kernel
theorem dX2_changeMode_165 : decode cX2_changeMode 165 = .ok (.if_icmp .ne 31, 3) := by decide +kernel
theorem dX2_changeMode_168 : decode cX2_changeMode 168 = .ok (.iload 5, 2) := by decide +kernel
theorem dX2_changeMode_170 : decode cX2_changeMode 170 = .ok (.ifCond .eq 26, 3) := by decide +kernel
theorem dX2_changeMode_173 : decode cX2_changeMode 173 = .ok (.aload_n 0, 1) := by decide +kernel
theorem dX2_changeMode_174 : decode cX2_changeMode 174 = .ok (.aload_n 0, 1) := by decide +kernel
theorem dX2_changeMode_175 : decode cX2_changeMode 175 = .ok (.getfield 42, 3) := by decide +kernel
theorem dX2_changeMode_178 : decode cX2_changeMode 178 = .ok (.aload_n 0, 1) := by decide +kernel
theorem dX2_changeMode_179 : decode cX2_changeMode 179 = .ok (.getfield 60, 3) := by decide +kernel
theorem dX2_changeMode_182 : decode cX2_changeMode 182 = .ok (.getfield 149, 3) := by decide +kernel
theorem dX2_changeMode_185 : decode cX2_changeMode 185 = .ok (.if_icmp .ge 7, 3) := by decide +kernel
theorem dX2_changeMode_188 : decode cX2_changeMode 188 = .ok (.iconst 2, 1) := by decide +kernel
theorem dX2_changeMode_189 : decode cX2_changeMode 189 = .ok (.goto 4, 3) := by decide +kernel
theorem dX2_changeMode_192 : decode cX2_changeMode 192 = .ok (.iconst 4, 1) := by decide +kernel
theorem dX2_changeMode_193 : decode cX2_changeMode 193 = .ok (.putfield 9, 3) := by decide +kernel
theorem dX2_changeMode_196 : decode cX2_changeMode 196 = .ok (.return_, 1) := by decide +kernel
set_option maxRecDepth 20000 in
theorem ggX2_moveSlide_X0_bothOpen : GoodIn wsX2_moveSlide wsX0_bothOpen := goodIn_r _ [14, 15, 16, 17, 18, 13, 19, 60, 61, 62, 63] (by decide +kernel) (by decide +kernel)
set_option maxRecDepth 20000 in
theorem gX2_moveSlide_X0_bothOpen : GoodIn wsX2_moveSlide (wsV RX2 152 RX0 yX0_bothOpen wsX0_bothOpen) := goodIn_app (goodIn_of _ (by decide +kernel)) ggX2_moveSlide_X0_bothOpen
set_option maxRecDepth 20000 in
theorem ggX2_moveSlide_X8_pairCount : GoodIn wsX2_moveSlide wsX8_pairCount := goodIn_r _ [22, 23, 24, 21, 25] (by decide +kernel) (by decide +kernel)
set_option maxRecDepth 20000 in
theorem gX2_moveSlide_X8_pairCount_n104 : GoodIn wsX2_moveSlide (wsX8_pairCount) := ggX2_moveSlide_X8_pairCount
set_option maxRecDepth 20000 in
theorem ggX2_moveSlide_X2_isMuted : GoodIn wsX2_moveSlide wsX2_isMuted := goodIn_r _ [30, 31, 37, 38, 39, 40, 41, 42, 43, 44, 45, 46, 47, 48, 49, 50, 51, 52, 53, 54] (by decide +kernel) (by decide +kernel)
set_option maxRecDepth 20000 in
theorem gX2_moveSlide_X2_isMuted : GoodIn wsX2_moveSlide (wsV RX2 108 RX2 yX2_isMuted wsX2_isMuted) := goodIn_app (goodIn_of _ (by decide +kernel)) ggX2_moveSlide_X2_isMuted
set_option maxRecDepth 20000 in
theorem ggX2_moveSlide_X2_arriveAtTop : GoodIn wsX2_moveSlide wsX2_arriveAtTop := goodIn_r _ [35, 6, 5, 36, 9, 37, 38, 39, 40, 41, 42, 43, 44, 45, 46, 47, 48, 49, 50, 51, 52, 53, 54] (by decide +kernel) (by decide +kernel)
set_option maxRecDepth 20000 in
theorem gX2_moveSlide_X2_arriveAtTop : GoodIn wsX2_moveSlide (wsV RX2 158 RX2 yX2_arriveAtTop wsX2_arriveAtTop) := goodIn_app (goodIn_of _ (by decide +kernel)) ggX2_moveSlide_X2_arriveAtTop
theorem dX2_moveSlide_0 : decode cX2_moveSlide 0 = .ok (.aload_n 0, 1) := by decide +kernel
theorem dX2_moveSlide_1 : decode cX2_moveSlide 1 = .ok (.getfield 64, 3) := by decide +kernel
theorem dX2_moveSlide_4 : decode cX2_moveSlide 4 = .ok (.aload_n 0, 1) := by decide +kernel
theorem dX2_moveSlide_5 : decode cX2_moveSlide 5 = .ok (.getfield 39, 3) := by decide +kernel
theorem dX2_moveSlide_8 : decode cX2_moveSlide 8 = .ok (.invokevirtual 152, 3) := by decide +kernel
theorem dX2_moveSlide_11 : decode cX2_moveSlide 11 = .ok (.ifCond .eq 17, 3) := by decide +kernel
theorem dX2_moveSlide_14 : decode cX2_moveSlide 14 = .ok (.aload_n 0, 1) := by decide +kernel
theorem dX2_moveSlide_15 : decode cX2_moveSlide 15 = .ok (.aload_n 0, 1) := by decide +kernel
theorem dX2_moveSlide_16 : decode cX2_moveSlide 16 = .ok (.getfield 60, 3) := by decide +kernel
theorem dX2_moveSlide_19 : decode cX2_moveSlide 19 = .ok (.getfield 155, 3) := by decide +kernel
theorem dX2_moveSlide_22 : decode cX2_moveSlide 22 = .ok (.putfield 45, 3) := by decide +kernel
theorem dX2_moveSlide_25 : decode cX2_moveSlide 25 = .ok (.goto 24, 3) := by decide +kernel
theorem dX2_moveSlide_28 : decode cX2_moveSlide 28 = .ok (.aload_n 0, 1) := by decide +kernel
theorem dX2_moveSlide_29 : decode cX2_moveSlide 29 = .ok (.getfield 45, 3) := by decide +kernel
theorem dX2_moveSlide_32 : decode cX2_moveSlide 32 = .ok (.ifCond .le 16, 3) := by decide +kernel
theorem dX2_moveSlide_35 : decode cX2_moveSlide 35 = .ok (.aload_n 0, 1) := by decide +kernel
theorem dX2_moveSlide_36 : decode cX2_moveSlide 36 = .ok (.dup, 1) := by decide +kernel
theorem dX2_moveSlide_37 : decode cX2_moveSlide 37 = .ok (.getfield 45, 3) := by decide +kernel
theorem dX2_moveSlide_40 : decode cX2_moveSlide 40 = .ok (.iconst 1, 1) := by decide +kernel
theorem dX2_moveSlide_41 : decode cX2_moveSlide 41 = .ok (.isub, 1) := by decide +kernel
theorem dX2_moveSlide_42 : decode cX2_moveSlide 42 = .ok (.putfield 45, 3) := by decide +kernel
theorem dX2_moveSlide_45 : decode cX2_moveSlide 45 = .ok (.goto 4, 3) := by decide +kernel
theorem dX2_moveSlide_48 : decode cX2_moveSlide 48 = .ok (.return_, 1) := by decide +kernel
theorem dX2_moveSlide_49 : decode cX2_moveSlide 49 = .ok (.aload_n 0, 1) := by decide +kernel
theorem dX2_moveSlide_50 : decode cX2_moveSlide 50 = .ok (.getfield 42, 3) := by decide +kernel
theorem dX2_moveSlide_53 : decode cX2_moveSlide 53 = .ok (.aload_n 0, 1) := by decide +kernel
theorem dX2_moveSlide_54 : decode cX2_moveSlide 54 = .ok (.getfield 60, 3) := by decide +kernel
theorem dX2_moveSlide_57 : decode cX2_moveSlide 57 = .ok (.getfield 149, 3) := by decide +kernel
theorem dX2_moveSlide_60 : decode cX2_moveSlide 60 = .ok (.if_icmp .ge 29, 3) := by decide +kernel
theorem dX2_moveSlide_63 : decode cX2_moveSlide 63 = .ok (.iload_n 1, 1) := by decide +kernel
theorem dX2_moveSlide_64 : decode cX2_moveSlide 64 = .ok (.iconst 4, 1) := by decide +kernel
theorem dX2_moveSlide_65 : decode cX2_moveSlide 65 = .ok (.invokestatic 104, 3) := by decide +kernel
theorem dX2_moveSlide_68 : decode cX2_moveSlide 68 = .ok (.iconst 2, 1) := by decide +kernel
theorem dX2_moveSlide_69 : decode cX2_moveSlide 69 = .ok (.if_icmp .eq 20, 3) := by decide +kernel
theorem dX2_moveSlide_72 : decode cX2_moveSlide 72 = .ok (.aload_n 0, 1) := by decide +kernel
theorem dX2_moveSlide_73 : decode cX2_moveSlide 73 = .ok (.invokevirtual 108, 3) := by decide +kernel
theorem dX2_moveSlide_76 : decode cX2_moveSlide 76 = .ok (.ifCond .ne 13, 3) := by decide +kernel
theorem dX2_moveSlide_79 : decode cX2_moveSlide 79 = .ok (.aload_n 0, 1) := by decide +kernel
theorem dX2_moveSlide_80 : decode cX2_moveSlide 80 = .ok (.dup, 1) := by decide +kernel
theorem dX2_moveSlide_81 : decode cX2_moveSlide 81 = .ok (.getfield 54, 3) := by decide +kernel
theorem dX2_moveSlide_84 : decode cX2_moveSlide 84 = .ok (.iconst 1, 1) := by decide +kernel
theorem dX2_moveSlide_85 : decode cX2_moveSlide 85 = .ok (.iadd, 1) := by decide +kernel
theorem dX2_moveSlide_86 : decode cX2_moveSlide 86 = .ok (.putfield 54, 3) := by decide +kernel
theorem dX2_moveSlide_89 : decode cX2_moveSlide 89 = .ok (.aload_n 0, 1) := by decide +kernel
theorem dX2_moveSlide_90 : decode cX2_moveSlide 90 = .ok (.dup, 1) := by decide +kernel
theorem dX2_moveSlide_91 : decode cX2_moveSlide 91 = .ok (.getfield 42, 3) := by decide +kernel
theorem dX2_moveSlide_94 : decode cX2_moveSlide 94 = .ok (.iconst 1, 1) := by decide +kernel
theorem dX2_moveSlide_95 : decode cX2_moveSlide 95 = .ok (.iadd, 1) := by decide +kernel
theorem dX2_moveSlide_96 : decode cX2_moveSlide 96 = .ok (.putfield 42, 3) := by decide +kernel
theorem dX2_moveSlide_99 : decode cX2_moveSlide 99 = .ok (.aload_n 0, 1) := by decide +kernel
theorem dX2_moveSlide_100 : decode cX2_moveSlide 100 = .ok (.getfield 42, 3) := by decide +kernel
theorem dX2_moveSlide_103 : decode cX2_moveSlide 103 = .ok (.aload_n 0, 1) := by decide +kernel
theorem dX2_moveSlide_104 : decode cX2_moveSlide 104 = .ok (.getfield 60, 3) := by decide +kernel
theorem dX2_moveSlide_107 : decode cX2_moveSlide 107 = .ok (.getfield 149, 3) := by decide +kernel
theorem dX2_moveSlide_110 : decode cX2_moveSlide 110 = .ok (.if_icmp .ne 16, 3) := by decide +kernel
theorem dX2_moveSlide_113 : decode cX2_moveSlide 113 = .ok (.aload_n 0, 1) := by decide +kernel
theorem dX2_moveSlide_114 : decode cX2_moveSlide 114 = .ok (.getfield 9, 3) := by decide +kernel
theorem dX2_moveSlide_117 : decode cX2_moveSlide 117 = .ok (.iconst 2, 1) := by decide +kernel
theorem dX2_moveSlide_118 : decode cX2_moveSlide 118 = .ok (.if_icmp .ne 8, 3) := by decide +kernel
theorem dX2_moveSlide_121 : decode cX2_moveSlide 121 = .ok (.aload_n 0, 1) := by decide +kernel
theorem dX2_moveSlide_122 : decode cX2_moveSlide 122 = .ok (.iconst 4, 1) := by decide +kernel
theorem dX2_moveSlide_123 : decode cX2_moveSlide 123 = .ok (.putfield 9, 3) := by decide +kernel
theorem dX2_moveSlide_126 : decode cX2_moveSlide 126 = .ok (.aload_n 0, 1) := by decide +kernel
theorem dX2_moveSlide_127 : decode cX2_moveSlide 127 = .ok (.getfield 42, 3) := by decide +kernel
theorem dX2_moveSlide_130 : decode cX2_moveSlide 130 = .ok (.iconst 2, 1) := by decide +kernel
theorem dX2_moveSlide_131 : decode cX2_moveSlide 131 = .ok (.aload_n 0, 1) := by decide +kernel
theorem dX2_moveSlide_132 : decode cX2_moveSlide 132 = .ok (.getfield 60, 3) := by decide +kernel
theorem dX2_moveSlide_135 : decode cX2_moveSlide 135 = .ok (.getfield 149, 3) := by decide +kernel
theorem dX2_moveSlide_138 : decode cX2_moveSlide 138 = .ok (.imul, 1) := by decide +kernel
theorem dX2_moveSlide_139 : decode cX2_moveSlide 139 = .ok (.if_icmp .lt 7, 3) := by decide +kernel
theorem dX2_moveSlide_142 : decode cX2_moveSlide 142 = .ok (.aload_n 0, 1) := by decide +kernel
theorem dX2_moveSlide_143 : decode cX2_moveSlide 143 = .ok (.invokevirtual 158, 3) := by decide +kernel
theorem dX2_moveSlide_146 : decode cX2_moveSlide 146 = .ok (.return_, 1) := by decide +kernel
theorem dX2_arriveAtTop_0 : decode cX2_arriveAtTop 0 = .ok (.aload_n 0, 1) := by decide +kernel
theorem dX2_arriveAtTop_1 : decode cX2_arriveAtTop 1 = .ok (.iconst 0, 1) := by decide +kernel
theorem dX2_arriveAtTop_2 : decode cX2_arriveAtTop 2 = .ok (.putfield 42, 3) := by decide +kernel
theorem dX2_arriveAtTop_5 : decode cX2_arriveAtTop 5 = .ok (.aload_n 0, 1) := by decide +kernel
theorem dX2_arriveAtTop_6 : decode cX2_arriveAtTop 6 = .ok (.iconst 0, 1) := by decide +kernel
theorem dX2_arriveAtTop_7 : decode cX2_arriveAtTop 7 = .ok (.putfield 45, 3) := by decide +kernel
theorem dX2_arriveAtTop_10 : decode cX2_arriveAtTop 10 = .ok (.aload_n 0, 1) := by decide +kernel
theorem dX2_arriveAtTop_11 : decode cX2_arriveAtTop 11 = .ok (.dup, 1) := by decide +kernel
theorem dX2_arriveAtTop_12 : decode cX2_arriveAtTop 12 = .ok (.getfield 57, 3) := by decide +kernel
theorem dX2_arriveAtTop_15 : decode cX2_arriveAtTop 15 = .ok (.iconst 1, 1) := by decide +kernel
theorem dX2_arriveAtTop_16 : decode cX2_arriveAtTop 16 = .ok (.iadd, 1) := by decide +kernel
theorem dX2_arriveAtTop_17 : decode cX2_arriveAtTop 17 = .ok (.putfield 57, 3) := by decide +kernel
theorem dX2_arriveAtTop_20 : decode cX2_arriveAtTop 20 = .ok (.aload_n 0, 1) := by decide +kernel
theorem dX2_arriveAtTop_21 : decode cX2_arriveAtTop 21 = .ok (.getfield 9, 3) := by decide +kernel
theorem dX2_arriveAtTop_24 : decode cX2_arriveAtTop 24 = .ok (.iconst 4, 1) := by decide +kernel
theorem dX2_arriveAtTop_25 : decode cX2_arriveAtTop 25 = .ok (.if_icmp .eq 11, 3) := by decide +kernel
theorem dX2_arriveAtTop_28 : decode cX2_arriveAtTop 28 = .ok (.aload_n 0, 1) := by decide +kernel
theorem dX2_arriveAtTop_29 : decode cX2_arriveAtTop 29 = .ok (.getfield 9, 3) := by decide +kernel
theorem dX2_arriveAtTop_32 : decode cX2_arriveAtTop 32 = .ok (.iconst 3, 1) := by decide +kernel
theorem dX2_arriveAtTop_33 : decode cX2_arriveAtTop 33 = .ok (.if_icmp .ne 8, 3) := by decide +kernel
theorem dX2_arriveAtTop_36 : decode cX2_arriveAtTop 36 = .ok (.aload_n 0, 1) := by decide +kernel
theorem dX2_arriveAtTop_37 : decode cX2_arriveAtTop 37 = .ok (.iconst 1, 1) := by decide +kernel
theorem dX2_arriveAtTop_38 : decode cX2_arriveAtTop 38 = .ok (.putfield 9, 3) := by decide +kernel
theorem dX2_arriveAtTop_41 : decode cX2_arriveAtTop 41 = .ok (.return_, 1) := by decide +kernel
theorem dX3_init_0 : decode cX3_init 0 = .ok (.aload_n 0, 1) := by decide +kernel
theorem dX3_init_1 : decode cX3_init 1 = .ok (.invokespecial 3, 3) := by decide +kernel
theorem dX3_init_4 : decode cX3_init 4 = .ok (.aload_n 0, 1) := by decide +kernel
theorem dX3_init_5 : decode cX3_init 5 = .ok (.bipush 32, 2) := by decide +kernel
theorem dX3_init_7 : decode cX3_init 7 = .ok (.newarray .int, 2) := by decide +kernel
theorem dX3_init_9 : decode cX3_init 9 = .ok (.putfield 9, 3) := by decide +kernel
theorem dX3_init_12 : decode cX3_init 12 = .ok (.aload_n 0, 1) := by decide +kernel
theorem dX3_init_13 : decode cX3_init 13 = .ok (.iconst 0, 1) := by decide +kernel
theorem dX3_init_14 : decode cX3_init 14 = .ok (.putfield 15, 3) := by decide +kernel
theorem dX3_init_17 : decode cX3_init 17 = .ok (.return_, 1) := by decide +kernel
set_option maxRecDepth 20000 in
theorem ggX3_append_X8_within : GoodIn wsX3_append wsX8_within := goodIn_r _ [5] (by decide +kernel) (by decide +kernel)
set_option maxRecDepth 20000 in
theorem gX3_append_X8_within_n19 : GoodIn wsX3_append (wsX8_within) := ggX3_append_X8_within
theorem dX3_append_0 : decode cX3_append 0 = .ok (.aload_n 0, 1) := by decide +kernel
theorem dX3_append_1 : decode cX3_append 1 = .ok (.getfield 15, 3) := by decide +kernel
theorem dX3_append_4 : decode cX3_append 4 = .ok (.iconst 0, 1) := by decide +kernel
theorem dX3_append_5 : decode cX3_append 5 = .ok (.bipush 31, 2) := by decide +kernel
theorem dX3_append_7 : decode cX3_append 7 = .ok (.invokestatic 19, 3) := by decide +kernel
theorem dX3_append_10 : decode cX3_append 10 = .ok (.ifCond .eq 23, 3) := by decide +kernel
theorem dX3_append_13 : decode cX3_append 13 = .ok (.aload_n 0, 1) := by decide +kernel
theorem dX3_append_14 : decode cX3_append 14 = .ok (.getfield 9, 3) := by decide +kernel
theorem dX3_append_17 : decode cX3_append 17 = .ok (.aload_n 0, 1) := by decide +kernel
theorem dX3_append_18 : decode cX3_append 18 = .ok (.getfield 15, 3) := by decide +kernel
theorem dX3_append_21 : decode cX3_append 21 = .ok (.iload_n 1, 1) := by decide +kernel
theorem dX3_append_22 : decode cX3_append 22 = .ok (.iastore, 1) := by decide +kernel
theorem dX3_append_23 : decode cX3_append 23 = .ok (.aload_n 0, 1) := by decide +kernel
theorem dX3_append_24 : decode cX3_append 24 = .ok (.dup, 1) := by decide +kernel
theorem dX3_append_25 : decode cX3_append 25 = .ok (.getfield 15, 3) := by decide +kernel
theorem dX3_append_28 : decode cX3_append 28 = .ok (.iconst 1, 1) := by decide +kernel
theorem dX3_append_29 : decode cX3_append 29 = .ok (.iadd, 1) := by decide +kernel
theorem dX3_append_30 : decode cX3_append 30 = .ok (.putfield 15, 3) := by decide +kernel
theorem dX3_append_33 : decode cX3_append 33 = .ok (.return_, 1) := by decide +kernel
set_option maxRecDepth 20000 in
theorem ggX3_setAt_X8_within : GoodIn wsX3_setAt wsX8_within := goodIn_r _ [4] (by decide +kernel) (by decide +kernel)
set_option maxRecDepth 20000 in
theorem gX3_setAt_X8_within_n19 : GoodIn wsX3_setAt (wsX8_within) := ggX3_setAt_X8_within
theorem dX3_setAt_0 : decode cX3_setAt 0 = .ok (.iload_n 1, 1) := by decide +kernel
theorem dX3_setAt_1 : decode cX3_setAt 1 = .ok (.iconst 0, 1) := by decide +kernel
theorem dX3_setAt_2 : decode cX3_setAt 2 = .ok (.bipush 31, 2) := by decide +kernel
theorem dX3_setAt_4 : decode cX3_setAt 4 = .ok (.invokestatic 19, 3) := by decide +kernel
theorem dX3_setAt_7 : decode cX3_setAt 7 = .ok (.ifCond .eq 12, 3) := by decide +kernel
theorem dX3_setAt_10 : decode cX3_setAt 10 = .ok (.aload_n 0, 1) := by decide +kernel
theorem dX3_setAt_11 : decode cX3_setAt 11 = .ok (.getfield 9, 3) := by decide +kernel
theorem dX3_setAt_14 : decode cX3_setAt 14 = .ok (.iload_n 1, 1) := by decide +kernel
theorem dX3_setAt_15 : decode cX3_setAt 15 = .ok (.iaload, 1) := by decide +kernel
theorem dX3_setAt_16 : decode cX3_setAt 16 = .ok (.goto 4, 3) := by decide +kernel
theorem dX3_setAt_19 : decode cX3_setAt 19 = .ok (.iconst 0, 1) := by decide +kernel
theorem dX3_setAt_20 : decode cX3_setAt 20 = .ok (.ireturn, 1) := by decide +kernel
set_option maxRecDepth 20000 in
theorem ggX4_init_X2_init : GoodIn wsX4_init wsX2_init := goodIn_r _ [18, 19, 2, 3, 20, 21, 22, 23, 24, 25, 26, 27, 28, 29, 30, 31, 32, 33, 34, 35, 36, 37, 45, 46, 47, 48, 49, 50, 51, 52, 53, 54, 55, 56, 57, 58, 59, 60, 61, 62] (by decide +kernel) (by decide +kernel)
set_option maxRecDepth 20000 in
theorem gX4_init_X2_init : GoodIn wsX4_init (wsX2_init) := ggX4_init_X2_init
theorem dX4_init_0 : decode cX4_init 0 = .ok (.aload_n 0, 1) := by decide +kernel
theorem dX4_init_1 : decode cX4_init 1 = .ok (.invokespecial 3, 3) := by decide +kernel
theorem dX4_init_4 : decode cX4_init 4 = .ok (.aload_n 0, 1) := by decide +kernel
theorem dX4_init_5 : decode cX4_init 5 = .ok (.bipush 6, 2) := by decide +kernel
theorem dX4_init_7 : decode cX4_init 7 = .ok (.anewarray 9, 3) := by decide +kernel
theorem dX4_init_10 : decode cX4_init 10 = .ok (.putfield 11, 3) := by decide +kernel
theorem dX4_init_13 : decode cX4_init 13 = .ok (.aload_n 0, 1) := by decide +kernel
theorem dX4_init_14 : decode cX4_init 14 = .ok (.sipush 2048, 3) := by decide +kernel
theorem dX4_init_17 : decode cX4_init 17 = .ok (.newarray .long, 2) := by decide +kernel
theorem dX4_init_19 : decode cX4_init 19 = .ok (.putfield 17, 3) := by decide +kernel
theorem dX4_init_22 : decode cX4_init 22 = .ok (.aload_n 0, 1) := by decide +kernel
theorem dX4_init_23 : decode cX4_init 23 = .ok (.iconst 5, 1) := by decide +kernel
theorem dX4_init_24 : decode cX4_init 24 = .ok (.newarray .int, 2) := by decide +kernel
theorem dX4_init_26 : decode cX4_init 26 = .ok (.putfield 21, 3) := by decide +kernel
theorem dX4_init_29 : decode cX4_init 29 = .ok (.aload_n 0, 1) := by decide +kernel
theorem dX4_init_30 : decode cX4_init 30 = .ok (.iconst 4, 1) := by decide +kernel
theorem dX4_init_31 : decode cX4_init 31 = .ok (.newarray .int, 2) := by decide +kernel
theorem dX4_init_33 : decode cX4_init 33 = .ok (.putfield 25, 3) := by decide +kernel
theorem dX4_init_36 : decode cX4_init 36 = .ok (.aload_n 0, 1) := by decide +kernel
theorem dX4_init_37 : decode cX4_init 37 = .ok (.iconst 0, 1) := by decide +kernel
theorem dX4_init_38 : decode cX4_init 38 = .ok (.putfield 28, 3) := by decide +kernel
theorem dX4_init_41 : decode cX4_init 41 = .ok (.aload_n 0, 1) := by decide +kernel
theorem dX4_init_42 : decode cX4_init 42 = .ok (.iconst 0, 1) := by decide +kernel
theorem dX4_init_43 : decode cX4_init 43 = .ok (.putfield 32, 3) := by decide +kernel
theorem dX4_init_46 : decode cX4_init 46 = .ok (.aload_n 0, 1) := by decide +kernel
theorem dX4_init_47 : decode cX4_init 47 = .ok (.iconst 0, 1) := by decide +kernel
theorem dX4_init_48 : decode cX4_init 48 = .ok (.putfield 35, 3) := by decide +kernel
theorem dX4_init_51 : decode cX4_init 51 = .ok (.iconst 0, 1) := by decide +kernel
theorem dX4_init_52 : decode cX4_init 52 = .ok (.istore_n 3, 1) := by decide +kernel
theorem dX4_init_53 : decode cX4_init 53 = .ok (.iload_n 3, 1) := by decide +kernel
theorem dX4_init_54 : decode cX4_init 54 = .ok (.iconst 5, 1) := by decide +kernel
theorem dX4_init_55 : decode cX4_init 55 = .ok (.if_icmp .gt 24, 3) := by decide +kernel
theorem dX4_init_58 : decode cX4_init 58 = .ok (.aload_n 0, 1) := by decide +kernel
theorem dX4_init_59 : decode cX4_init 59 = .ok (.getfield 11, 3) := by decide +kernel
theorem dX4_init_62 : decode cX4_init 62 = .ok (.iload_n 3, 1) := by decide +kernel
theorem dX4_init_63 : decode cX4_init 63 = .ok (.new 9, 3) := by decide +kernel
theorem dX4_init_66 : decode cX4_init 66 = .ok (.dup, 1) := by decide +kernel
theorem dX4_init_67 : decode cX4_init 67 = .ok (.aload_n 1, 1) := by decide +kernel
theorem dX4_init_68 : decode cX4_init 68 = .ok (.aload_n 2, 1) := by decide +kernel
theorem dX4_init_69 : decode cX4_init 69 = .ok (.invokespecial 38, 3) := by decide +kernel
theorem dX4_init_72 : decode cX4_init 72 = .ok (.aastore, 1) := by decide +kernel
theorem dX4_init_73 : decode cX4_init 73 = .ok (.iinc 3 1, 3) := by decide +kernel
theorem dX4_init_76 : decode cX4_init 76 = .ok (.goto (-23), 3) := by decide +kernel
theorem dX4_init_79 : decode cX4_init 79 = .ok (.return_, 1) := by decide +kernel
set_option maxRecDepth 20000 in
theorem ggX4_run_J7_fill_d0a16 : GoodIn wsX4_run wsJ7_fill_d0a16 := goodIn_r _ [10] (by decide +kernel) (by decide +kernel)
set_option maxRecDepth 20000 in
theorem gX4_run_J7_fill_d0a16 : GoodIn wsX4_run (va_wsS RX4 41 yJ7_fill_d0a16 wsJ7_fill_d0a16) := goodIn_app (goodIn_of _ (by decide +kernel)) ggX4_run_J7_fill_d0a16
set_option maxRecDepth 20000 in
theorem ggX4_run_J7_fill_53178 : GoodIn wsX4_run wsJ7_fill_53178 := goodIn_r _ [13] (by decide +kernel) (by decide +kernel)
set_option maxRecDepth 20000 in
theorem gX4_run_J7_fill_53178 : GoodIn wsX4_run (va_wsS RX4 47 yJ7_fill_53178 wsJ7_fill_53178) := goodIn_app (goodIn_of _ (by decide +kernel)) ggX4_run_J7_fill_53178
set_option maxRecDepth 20000 in
theorem ggX4_run_X4_chooseSets : GoodIn wsX4_run wsX4_chooseSets := goodIn_r _ [18, 19, 20, 21, 22, 23, 24, 25, 26, 27, 28, 29, 30, 31, 161, 162, 163, 164, 165, 166, 167] (by decide +kernel) (by decide +kernel)
set_option maxRecDepth 20000 in
theorem gX4_run_X4_chooseSets : GoodIn wsX4_run (wsV RX4 50 RX4 yX4_chooseSets wsX4_chooseSets) := goodIn_app (goodIn_of _ (by decide +kernel)) ggX4_run_X4_chooseSets
set_option maxRecDepth 20000 in
theorem ggX4_run_X2_copyFrom : GoodIn wsX4_run wsX2_copyFrom := goodIn_r _ [36, 37, 38, 39, 40, 41, 42, 43, 44, 45, 46, 47, 48, 49, 50, 51, 52, 168, 169, 170, 171, 172, 173, 174, 175, 176, 177, 178, 179, 180, 181, 182, 183, 184, 185] (by decide +kernel) (by decide +kernel)
set_option maxRecDepth 20000 in
theorem gX4_run_X2_copyFrom : GoodIn wsX4_run (wsV RX4 54 RX2 yX2_copyFrom wsX2_copyFrom) := goodIn_app (goodIn_of _ (by decide +kernel)) ggX4_run_X2_copyFrom
set_option maxRecDepth 20000 in
theorem ggX4_run_X4_goOn : GoodIn wsX4_run wsX4_goOn := goodIn_r _ [55, 5, 24, 19, 56, 57, 58, 59, 60, 61, 17, 62, 4, 6, 63, 64, 22, 65, 66, 2, 67, 68, 69, 35, 70, 71, 37, 72, 38, 73, 39, 40, 74, 41, 42, 43, 44, 45, 75, 46, 76, 47, 48, 49, 77, 78, 79, 80, 81, 1, 3, 32, 33, 34, 36, 50, 51, 52, 82, 83, 84, 85, 86, 87, 88, 89, 90, 91, 92, 93, 94, 95, 96, 97, 98, 99, 100, 101, 102, 103, 104, 105, 21, 23, 106, 107, 108, 109, 110, 111, 112, 113, 114, 115, 116, 117, 118, 119, 120, 121, 122, 123, 124, 125, 126, 127, 128, 129, 130, 131, 132, 133, 134, 135, 136, 137, 138, 139, 140, 141, 142, 143, 144, 145, 146, 147, 148, 149, 150, 151, 152, 153, 154, 155, 156, 157, 158, 159, 160, 53, 54, 161, 162, 163, 164, 165, 166, 167, 168, 169, 170, 171, 172, 173, 174, 175, 176, 177, 178, 179, 180, 181, 182, 183, 184, 185, 186, 187, 188, 189, 190, 191, 192, 193, 194] (by decide +kernel) (by decide +kernel)
set_option maxRecDepth 20000 in
theorem gX4_run_X4_goOn : GoodIn wsX4_run (va_wsS RX4 61 yX4_goOn wsX4_goOn) := goodIn_app (goodIn_of _ (by decide +kernel)) ggX4_run_X4_goOn
theorem dX4_run_0 : decode cX4_run 0 = .ok (.aload_n 0, 1) := by decide +kernel
theorem dX4_run_1 : decode cX4_run 1 = .ok (.getfield 17, 3) := by decide +kernel
theorem dX4_run_4 : decode cX4_run 4 = .ok (.lconst 0, 1) := by decide +kernel
theorem dX4_run_5 : decode cX4_run 5 = .ok (.invokestatic 41, 3) := by decide +kernel
theorem dX4_run_8 : decode cX4_run 8 = .ok (.aload_n 0, 1) := by decide +kernel
theorem dX4_run_9 : decode cX4_run 9 = .ok (.getfield 21, 3) := by decide +kernel
theorem dX4_run_12 : decode cX4_run 12 = .ok (.bipush (-9), 2) := by decide +kernel
theorem dX4_run_14 : decode cX4_run 14 = .ok (.invokestatic 47, 3) := by decide +kernel
theorem dX4_run_17 : decode cX4_run 17 = .ok (.aload_n 0, 1) := by decide +kernel
theorem dX4_run_18 : decode cX4_run 18 = .ok (.iconst 0, 1) := by decide +kernel
theorem dX4_run_19 : decode cX4_run 19 = .ok (.putfield 32, 3) := by decide +kernel
theorem dX4_run_22 : decode cX4_run 22 = .ok (.aload_n 0, 1) := by decide +kernel
theorem dX4_run_23 : decode cX4_run 23 = .ok (.iconst 0, 1) := by decide +kernel
theorem dX4_run_24 : decode cX4_run 24 = .ok (.putfield 35, 3) := by decide +kernel
theorem dX4_run_27 : decode cX4_run 27 = .ok (.aload_n 0, 1) := by decide +kernel
theorem dX4_run_28 : decode cX4_run 28 = .ok (.iload_n 2, 1) := by decide +kernel
theorem dX4_run_29 : decode cX4_run 29 = .ok (.iload_n 3, 1) := by decide +kernel
theorem dX4_run_30 : decode cX4_run 30 = .ok (.invokevirtual 50, 3) := by decide +kernel
theorem dX4_run_33 : decode cX4_run 33 = .ok (.aload_n 0, 1) := by decide +kernel
theorem dX4_run_34 : decode cX4_run 34 = .ok (.getfield 11, 3) := by decide +kernel
theorem dX4_run_37 : decode cX4_run 37 = .ok (.iconst 0, 1) := by decide +kernel
theorem dX4_run_38 : decode cX4_run 38 = .ok (.aaload, 1) := by decide +kernel
theorem dX4_run_39 : decode cX4_run 39 = .ok (.astore 5, 2) := by decide +kernel
theorem dX4_run_41 : decode cX4_run 41 = .ok (.aload 5, 2) := by decide +kernel
theorem dX4_run_43 : decode cX4_run 43 = .ok (.ifnonnull 4, 3) := by decide +kernel
theorem dX4_run_46 : decode cX4_run 46 = .ok (.return_, 1) := by decide +kernel
theorem dX4_run_47 : decode cX4_run 47 = .ok (.aload 5, 2) := by decide +kernel
theorem dX4_run_49 : decode cX4_run 49 = .ok (.aload_n 1, 1) := by decide +kernel
theorem dX4_run_50 : decode cX4_run 50 = .ok (.invokevirtual 54, 3) := by decide +kernel
theorem dX4_run_53 : decode cX4_run 53 = .ok (.aload 5, 2) := by decide +kernel
theorem dX4_run_55 : decode cX4_run 55 = .ok (.iconst 0, 1) := by decide +kernel
theorem dX4_run_56 : decode cX4_run 56 = .ok (.putfield 58, 3) := by decide +kernel
theorem dX4_run_59 : decode cX4_run 59 = .ok (.aload_n 0, 1) := by decide +kernel
theorem dX4_run_60 : decode cX4_run 60 = .ok (.iconst 0, 1) := by decide +kernel
theorem dX4_run_61 : decode cX4_run 61 = .ok (.iload 4, 2) := by decide +kernel
theorem dX4_run_63 : decode cX4_run 63 = .ok (.invokestatic 61, 3) := by decide +kernel
theorem dX4_run_66 : decode cX4_run 66 = .ok (.return_, 1) := by decide +kernel
set_option maxRecDepth 20000 in
theorem ggX4_part_X8_within : GoodIn wsX4_part wsX8_within := goodIn_r _ [6] (by decide +kernel) (by decide +kernel)
set_option maxRecDepth 20000 in
theorem gX4_part_X8_within_n65 : GoodIn wsX4_part (wsX8_within) := ggX4_part_X8_within
theorem dX4_part_0 : decode cX4_part 0 = .ok (.iload_n 1, 1) := by decide +kernel
theorem dX4_part_1 : decode cX4_part 1 = .ok (.ifCond .ne 8, 3) := by decide +kernel
theorem dX4_part_4 : decode cX4_part 4 = .ok (.aload_n 0, 1) := by decide +kernel
theorem dX4_part_5 : decode cX4_part 5 = .ok (.getfield 32, 3) := by decide +kernel
theorem dX4_part_8 : decode cX4_part 8 = .ok (.ireturn, 1) := by decide +kernel
theorem dX4_part_9 : decode cX4_part 9 = .ok (.iload_n 1, 1) := by decide +kernel
theorem dX4_part_10 : decode cX4_part 10 = .ok (.iconst 1, 1) := by decide +kernel
theorem dX4_part_11 : decode cX4_part 11 = .ok (.if_icmp .ne 8, 3) := by decide +kernel
theorem dX4_part_14 : decode cX4_part 14 = .ok (.aload_n 0, 1) := by decide +kernel
theorem dX4_part_15 : decode cX4_part 15 = .ok (.getfield 35, 3) := by decide +kernel
theorem dX4_part_18 : decode cX4_part 18 = .ok (.ireturn, 1) := by decide +kernel
theorem dX4_part_19 : decode cX4_part 19 = .ok (.iload_n 1, 1) := by decide +kernel
theorem dX4_part_20 : decode cX4_part 20 = .ok (.bipush 10, 2) := by decide +kernel
theorem dX4_part_22 : decode cX4_part 22 = .ok (.bipush 14, 2) := by decide +kernel
theorem dX4_part_24 : decode cX4_part 24 = .ok (.invokestatic 65, 3) := by decide +kernel
theorem dX4_part_27 : decode cX4_part 27 = .ok (.ifCond .eq 15, 3) := by decide +kernel
theorem dX4_part_30 : decode cX4_part 30 = .ok (.aload_n 0, 1) := by decide +kernel
theorem dX4_part_31 : decode cX4_part 31 = .ok (.getfield 21, 3) := by decide +kernel
theorem dX4_part_34 : decode cX4_part 34 = .ok (.iload_n 1, 1) := by decide +kernel
theorem dX4_part_35 : decode cX4_part 35 = .ok (.bipush 10, 2) := by decide +kernel
theorem dX4_part_37 : decode cX4_part 37 = .ok (.isub, 1) := by decide +kernel
theorem dX4_part_38 : decode cX4_part 38 = .ok (.iaload, 1) := by decide +kernel
theorem dX4_part_39 : decode cX4_part 39 = .ok (.goto 5, 3) := by decide +kernel
theorem dX4_part_42 : decode cX4_part 42 = .ok (.bipush (-2), 2) := by decide +kernel
theorem dX4_part_44 : decode cX4_part 44 = .ok (.ireturn, 1) := by decide +kernel
set_option maxRecDepth 20000 in
theorem ggX4_chooseSets_J6_bitCount_0f7a4 : GoodIn wsX4_chooseSets wsJ6_bitCount_0f7a4 := goodIn_r _ [10, 11, 12, 13] (by decide +kernel) (by decide +kernel)
set_option maxRecDepth 20000 in
theorem gX4_chooseSets_J6_bitCount_0f7a4 : GoodIn wsX4_chooseSets (va_wsS RX4 69 yJ6_bitCount_0f7a4 wsJ6_bitCount_0f7a4) := goodIn_app (goodIn_of _ (by decide +kernel)) ggX4_chooseSets_J6_bitCount_0f7a4
theorem dX4_chooseSets_0 : decode cX4_chooseSets 0 = .ok (.iload_n 2, 1) := by decide +kernel
theorem dX4_chooseSets_1 : decode cX4_chooseSets 1 = .ok (.iload_n 2, 1) := by decide +kernel
theorem dX4_chooseSets_2 : decode cX4_chooseSets 2 = .ok (.ineg, 1) := by decide +kernel
theorem dX4_chooseSets_3 : decode cX4_chooseSets 3 = .ok (.iand, 1) := by decide +kernel
theorem dX4_chooseSets_4 : decode cX4_chooseSets 4 = .ok (.istore_n 3, 1) := by decide +kernel
theorem dX4_chooseSets_5 : decode cX4_chooseSets 5 = .ok (.iload_n 2, 1) := by decide +kernel
theorem dX4_chooseSets_6 : decode cX4_chooseSets 6 = .ok (.iload_n 3, 1) := by decide +kernel
theorem dX4_chooseSets_7 : decode cX4_chooseSets 7 = .ok (.iconst (-1), 1) := by decide +kernel
theorem dX4_chooseSets_8 : decode cX4_chooseSets 8 = .ok (.ixor, 1) := by decide +kernel
theorem dX4_chooseSets_9 : decode cX4_chooseSets 9 = .ok (.iand, 1) := by decide +kernel
theorem dX4_chooseSets_10 : decode cX4_chooseSets 10 = .ok (.istore 4, 2) := by decide +kernel
theorem dX4_chooseSets_12 : decode cX4_chooseSets 12 = .ok (.iload_n 1, 1) := by decide +kernel
theorem dX4_chooseSets_13 : decode cX4_chooseSets 13 = .ok (.iload_n 2, 1) := by decide +kernel
theorem dX4_chooseSets_14 : decode cX4_chooseSets 14 = .ok (.iconst (-1), 1) := by decide +kernel
theorem dX4_chooseSets_15 : decode cX4_chooseSets 15 = .ok (.ixor, 1) := by decide +kernel
theorem dX4_chooseSets_16 : decode cX4_chooseSets 16 = .ok (.iand, 1) := by decide +kernel
theorem dX4_chooseSets_17 : decode cX4_chooseSets 17 = .ok (.istore 5, 2) := by decide +kernel
theorem dX4_chooseSets_19 : decode cX4_chooseSets 19 = .ok (.aload_n 0, 1) := by decide +kernel
theorem dX4_chooseSets_20 : decode cX4_chooseSets 20 = .ok (.getfield 25, 3) := by decide +kernel
theorem dX4_chooseSets_23 : decode cX4_chooseSets 23 = .ok (.iconst 0, 1) := by decide +kernel
theorem dX4_chooseSets_24 : decode cX4_chooseSets 24 = .ok (.iload 5, 2) := by decide +kernel
theorem dX4_chooseSets_26 : decode cX4_chooseSets 26 = .ok (.iastore, 1) := by decide +kernel
theorem dX4_chooseSets_27 : decode cX4_chooseSets 27 = .ok (.aload_n 0, 1) := by decide +kernel
theorem dX4_chooseSets_28 : decode cX4_chooseSets 28 = .ok (.getfield 25, 3) := by decide +kernel
theorem dX4_chooseSets_31 : decode cX4_chooseSets 31 = .ok (.iconst 1, 1) := by decide +kernel
theorem dX4_chooseSets_32 : decode cX4_chooseSets 32 = .ok (.iload 5, 2) := by decide +kernel
theorem dX4_chooseSets_34 : decode cX4_chooseSets 34 = .ok (.iload_n 3, 1) := by decide +kernel
theorem dX4_chooseSets_35 : decode cX4_chooseSets 35 = .ok (.ior, 1) := by decide +kernel
theorem dX4_chooseSets_36 : decode cX4_chooseSets 36 = .ok (.iastore, 1) := by decide +kernel
theorem dX4_chooseSets_37 : decode cX4_chooseSets 37 = .ok (.aload_n 0, 1) := by decide +kernel
theorem dX4_chooseSets_38 : decode cX4_chooseSets 38 = .ok (.getfield 25, 3) := by decide +kernel
theorem dX4_chooseSets_41 : decode cX4_chooseSets 41 = .ok (.iconst 2, 1) := by decide +kernel
theorem dX4_chooseSets_42 : decode cX4_chooseSets 42 = .ok (.iload 5, 2) := by decide +kernel
theorem dX4_chooseSets_44 : decode cX4_chooseSets 44 = .ok (.iload 4, 2) := by decide +kernel
theorem dX4_chooseSets_46 : decode cX4_chooseSets 46 = .ok (.ior, 1) := by decide +kernel
theorem dX4_chooseSets_47 : decode cX4_chooseSets 47 = .ok (.iastore, 1) := by decide +kernel
theorem dX4_chooseSets_48 : decode cX4_chooseSets 48 = .ok (.aload_n 0, 1) := by decide +kernel
theorem dX4_chooseSets_49 : decode cX4_chooseSets 49 = .ok (.getfield 25, 3) := by decide +kernel
theorem dX4_chooseSets_52 : decode cX4_chooseSets 52 = .ok (.iconst 3, 1) := by decide +kernel
theorem dX4_chooseSets_53 : decode cX4_chooseSets 53 = .ok (.iload 5, 2) := by decide +kernel
theorem dX4_chooseSets_55 : decode cX4_chooseSets 55 = .ok (.iload_n 2, 1) := by decide +kernel
theorem dX4_chooseSets_56 : decode cX4_chooseSets 56 = .ok (.ior, 1) := by decide +kernel
theorem dX4_chooseSets_57 : decode cX4_chooseSets 57 = .ok (.iastore, 1) := by decide +kernel
theorem dX4_chooseSets_58 : decode cX4_chooseSets 58 = .ok (.aload_n 0, 1) := by decide +kernel
theorem dX4_chooseSets_59 : decode cX4_chooseSets 59 = .ok (.iconst 1, 1) := by decide +kernel
theorem dX4_chooseSets_60 : decode cX4_chooseSets 60 = .ok (.iload_n 2, 1) := by decide +kernel
theorem dX4_chooseSets_61 : decode cX4_chooseSets 61 = .ok (.invokestatic 69, 3) := by decide +kernel
theorem dX4_chooseSets_64 : decode cX4_chooseSets 64 = .ok (.iconst 2, 1) := by decide +kernel
theorem dX4_chooseSets_65 : decode cX4_chooseSets 65 = .ok (.invokestatic 75, 3) := by decide +kernel
theorem dX4_chooseSets_68 : decode cX4_chooseSets 68 = .ok (.ishl, 1) := by decide +kernel
theorem dX4_chooseSets_69 : decode cX4_chooseSets 69 = .ok (.putfield 28, 3) := by decide +kernel
theorem dX4_chooseSets_72 : decode cX4_chooseSets 72 = .ok (.return_, 1) := by decide +kernel
set_option maxRecDepth 20000 in
theorem ggX4_goOn_X8_within : GoodIn wsX4_goOn wsX8_within := goodIn_r _ [6] (by decide +kernel) (by decide +kernel)
set_option maxRecDepth 20000 in
theorem gX4_goOn_X8_within_n65 : GoodIn wsX4_goOn (wsX8_within) := ggX4_goOn_X8_within
set_option maxRecDepth 20000 in
theorem ggX4_goOn_X4_meet : GoodIn wsX4_goOn wsX4_meet := goodIn_r _ [11, 12, 13, 14, 15, 16, 17, 18, 19, 20, 21, 22, 23, 24, 25, 26, 27, 28, 29, 30, 31, 32, 33, 34, 35, 36, 37, 38, 39, 40, 41, 42, 43, 44, 45, 46, 10, 47, 48, 49, 50, 4, 5, 6, 141, 142, 143, 144, 145, 146, 147, 148, 149, 150, 151, 152, 153, 154, 155, 156, 157, 158, 159, 160, 161, 162, 163, 164, 165] (by decide +kernel) (by decide +kernel)
set_option maxRecDepth 20000 in
theorem gX4_goOn_X4_meet : GoodIn wsX4_goOn (wsV RX4 81 RX4 yX4_meet wsX4_meet) := goodIn_app (goodIn_of _ (by decide +kernel)) ggX4_goOn_X4_meet
set_option maxRecDepth 20000 in
theorem ggX4_goOn_X2_copyFrom : GoodIn wsX4_goOn wsX2_copyFrom := goodIn_r _ [54, 26, 28, 30, 31, 33, 34, 35, 36, 37, 39, 41, 42, 43, 55, 56, 57, 148, 149, 150, 151, 152, 153, 154, 155, 156, 157, 158, 159, 160, 161, 162, 163, 164, 165] (by decide +kernel) (by decide +kernel)
set_option maxRecDepth 20000 in
theorem gX4_goOn_X2_copyFrom : GoodIn wsX4_goOn (wsV RX4 54 RX2 yX2_copyFrom wsX2_copyFrom) := goodIn_app (goodIn_of _ (by decide +kernel)) ggX4_goOn_X2_copyFrom
set_option maxRecDepth 20000 in
theorem ggX4_goOn_X2_advance : GoodIn wsX4_goOn wsX2_advance := goodIn_r _ [61, 62, 34, 35, 36, 28, 39, 37, 26, 43, 63, 64, 65, 66, 67, 68, 69, 70, 71, 23, 72, 73, 5, 74, 75, 76, 77, 78, 79, 80, 81, 82, 16, 83, 84, 85, 86, 87, 31, 33, 88, 89, 90, 91, 92, 93, 94, 95, 96, 97, 98, 99, 100, 101, 30, 102, 103, 104, 105, 106, 107, 108, 109, 110, 111, 112, 113, 114, 115, 116, 117, 118, 119, 41, 55, 120, 121, 122, 123, 124, 125, 126, 127, 128, 129, 130, 42, 56, 131, 132, 133, 134, 135, 136, 137, 138, 57, 148, 149, 150, 151, 152, 153, 154, 155, 156, 157, 158, 159, 160, 161, 162, 163, 164, 165, 166, 167, 168, 169, 170, 171, 172, 173, 174] (by decide +kernel) (by decide +kernel)
set_option maxRecDepth 20000 in
theorem gX4_goOn_X2_advance : GoodIn wsX4_goOn (wsV RX4 85 RX2 yX2_advance wsX2_advance) := goodIn_app (goodIn_of _ (by decide +kernel)) ggX4_goOn_X2_advance
set_option maxRecDepth 20000 in
theorem ggX4_goOn_X4_goOn : GoodIn wsX4_goOn wsX4_goOn := goodIn_r _ [0, 1, 2, 3, 4, 5, 6, 7, 8, 9, 10, 11, 12, 13, 14, 15, 16, 17, 18, 19, 20, 21, 22, 23, 24, 25, 26, 27, 28, 29, 30, 31, 32, 33, 34, 35, 36, 37, 38, 39, 40, 41, 42, 43, 44, 45, 46, 47, 48, 49, 50, 51, 52, 53, 54, 55, 56, 57, 58, 59, 60, 61, 62, 63, 64, 65, 66, 67, 68, 69, 70, 71, 72, 73, 74, 75, 76, 77, 78, 79, 80, 81, 82, 83, 84, 85, 86, 87, 88, 89, 90, 91, 92, 93, 94, 95, 96, 97, 98, 99, 100, 101, 102, 103, 104, 105, 106, 107, 108, 109, 110, 111, 112, 113, 114, 115, 116, 117, 118, 119, 120, 121, 122, 123, 124, 125, 126, 127, 128, 129, 130, 131, 132, 133, 134, 135, 136, 137, 138, 139, 140, 141, 142, 143, 144, 145, 146, 147, 148, 149, 150, 151, 152, 153, 154, 155, 156, 157, 158, 159, 160, 161, 162, 163, 164, 165, 166, 167, 168, 169, 170, 171, 172, 173, 174] (by decide +kernel) (by decide +kernel)
set_option maxRecDepth 20000 in
theorem gX4_goOn_X4_goOn : GoodIn wsX4_goOn (va_wsS RX4 61 yX4_goOn wsX4_goOn) := goodIn_app (goodIn_of _ (by decide +kernel)) ggX4_goOn_X4_goOn
theorem dX4_goOn_0 : decode cX4_goOn 0 = .ok (.iload_n 1, 1) := by decide +kernel
theorem dX4_goOn_1 : decode cX4_goOn 1 = .ok (.iconst 0, 1) := by decide +kernel
theorem dX4_goOn_2 : decode cX4_goOn 2 = .ok (.iconst 5, 1) := by decide +kernel
theorem dX4_goOn_3 : decode cX4_goOn 3 = .ok (.invokestatic 65, 3) := by decide +kernel
theorem dX4_goOn_6 : decode cX4_goOn 6 = .ok (.ifCond .ne 4, 3) := by decide +kernel
theorem dX4_goOn_9 : decode cX4_goOn 9 = .ok (.return_, 1) := by decide +kernel
theorem dX4_goOn_10 : decode cX4_goOn 10 = .ok (.aload_n 0, 1) := by decide +kernel
theorem dX4_goOn_11 : decode cX4_goOn 11 = .ok (.getfield 11, 3) := by decide +kernel
theorem dX4_goOn_14 : decode cX4_goOn 14 = .ok (.iload_n 1, 1) := by decide +kernel
theorem dX4_goOn_15 : decode cX4_goOn 15 = .ok (.aaload, 1) := by decide +kernel
theorem dX4_goOn_16 : decode cX4_goOn 16 = .ok (.astore_n 3, 1) := by decide +kernel
theorem dX4_goOn_17 : decode cX4_goOn 17 = .ok (.aload_n 3, 1) := by decide +kernel
theorem dX4_goOn_18 : decode cX4_goOn 18 = .ok (.ifnonnull 4, 3) := by decide +kernel
theorem dX4_goOn_21 : decode cX4_goOn 21 = .ok (.return_, 1) := by decide +kernel
theorem dX4_goOn_22 : decode cX4_goOn 22 = .ok (.aload_n 0, 1) := by decide +kernel
theorem dX4_goOn_23 : decode cX4_goOn 23 = .ok (.aload_n 3, 1) := by decide +kernel
theorem dX4_goOn_24 : decode cX4_goOn 24 = .ok (.iload_n 1, 1) := by decide +kernel
theorem dX4_goOn_25 : decode cX4_goOn 25 = .ok (.invokevirtual 81, 3) := by decide +kernel
theorem dX4_goOn_28 : decode cX4_goOn 28 = .ok (.iload_n 1, 1) := by decide +kernel
theorem dX4_goOn_29 : decode cX4_goOn 29 = .ok (.iload_n 2, 1) := by decide +kernel
theorem dX4_goOn_30 : decode cX4_goOn 30 = .ok (.if_icmp .ge 8, 3) := by decide +kernel
theorem dX4_goOn_33 : decode cX4_goOn 33 = .ok (.iload_n 1, 1) := by decide +kernel
theorem dX4_goOn_34 : decode cX4_goOn 34 = .ok (.iconst 5, 1) := by decide +kernel
theorem dX4_goOn_35 : decode cX4_goOn 35 = .ok (.if_icmp .lt 4, 3) := by decide +kernel
theorem dX4_goOn_38 : decode cX4_goOn 38 = .ok (.return_, 1) := by decide +kernel
theorem dX4_goOn_39 : decode cX4_goOn 39 = .ok (.aload_n 0, 1) := by decide +kernel
theorem dX4_goOn_40 : decode cX4_goOn 40 = .ok (.getfield 11, 3) := by decide +kernel
theorem dX4_goOn_43 : decode cX4_goOn 43 = .ok (.iload_n 1, 1) := by decide +kernel
theorem dX4_goOn_44 : decode cX4_goOn 44 = .ok (.iconst 1, 1) := by decide +kernel
theorem dX4_goOn_45 : decode cX4_goOn 45 = .ok (.iadd, 1) := by decide +kernel
theorem dX4_goOn_46 : decode cX4_goOn 46 = .ok (.aaload, 1) := by decide +kernel
theorem dX4_goOn_47 : decode cX4_goOn 47 = .ok (.astore 4, 2) := by decide +kernel
theorem dX4_goOn_49 : decode cX4_goOn 49 = .ok (.aload 4, 2) := by decide +kernel
theorem dX4_goOn_51 : decode cX4_goOn 51 = .ok (.ifnonnull 4, 3) := by decide +kernel
theorem dX4_goOn_54 : decode cX4_goOn 54 = .ok (.return_, 1) := by decide +kernel
theorem dX4_goOn_55 : decode cX4_goOn 55 = .ok (.iconst 0, 1) := by decide +kernel
theorem dX4_goOn_56 : decode cX4_goOn 56 = .ok (.istore 5, 2) := by decide +kernel
theorem dX4_goOn_58 : decode cX4_goOn 58 = .ok (.iload 5, 2) := by decide +kernel
theorem dX4_goOn_60 : decode cX4_goOn 60 = .ok (.aload_n 0, 1) := by decide +kernel
theorem dX4_goOn_61 : decode cX4_goOn 61 = .ok (.getfield 28, 3) := by decide +kernel
theorem dX4_goOn_64 : decode cX4_goOn 64 = .ok (.if_icmp .ge 45, 3) := by decide +kernel
theorem dX4_goOn_67 : decode cX4_goOn 67 = .ok (.iload 5, 2) := by decide +kernel
theorem dX4_goOn_69 : decode cX4_goOn 69 = .ok (.aload_n 0, 1) := by decide +kernel
theorem dX4_goOn_70 : decode cX4_goOn 70 = .ok (.getfield 25, 3) := by decide +kernel
theorem dX4_goOn_73 : decode cX4_goOn 73 = .ok (.arraylength, 1) := by decide +kernel
theorem dX4_goOn_74 : decode cX4_goOn 74 = .ok (.if_icmp .ge 35, 3) := by decide +kernel
theorem dX4_goOn_77 : decode cX4_goOn 77 = .ok (.aload 4, 2) := by decide +kernel
theorem dX4_goOn_79 : decode cX4_goOn 79 = .ok (.aload_n 3, 1) := by decide +kernel
theorem dX4_goOn_80 : decode cX4_goOn 80 = .ok (.invokevirtual 54, 3) := by decide +kernel
theorem dX4_goOn_83 : decode cX4_goOn 83 = .ok (.aload 4, 2) := by decide +kernel
theorem dX4_goOn_85 : decode cX4_goOn 85 = .ok (.aload_n 0, 1) := by decide +kernel
theorem dX4_goOn_86 : decode cX4_goOn 86 = .ok (.getfield 25, 3) := by decide +kernel
theorem dX4_goOn_89 : decode cX4_goOn 89 = .ok (.iload 5, 2) := by decide +kernel
theorem dX4_goOn_91 : decode cX4_goOn 91 = .ok (.iaload, 1) := by decide +kernel
theorem dX4_goOn_92 : decode cX4_goOn 92 = .ok (.invokevirtual 85, 3) := by decide +kernel
theorem dX4_goOn_95 : decode cX4_goOn 95 = .ok (.aload_n 0, 1) := by decide +kernel
theorem dX4_goOn_96 : decode cX4_goOn 96 = .ok (.iload_n 1, 1) := by decide +kernel
theorem dX4_goOn_97 : decode cX4_goOn 97 = .ok (.iconst 1, 1) := by decide +kernel
theorem dX4_goOn_98 : decode cX4_goOn 98 = .ok (.iadd, 1) := by decide +kernel
theorem dX4_goOn_99 : decode cX4_goOn 99 = .ok (.iload_n 2, 1) := by decide +kernel
theorem dX4_goOn_100 : decode cX4_goOn 100 = .ok (.invokestatic 61, 3) := by decide +kernel
theorem dX4_goOn_103 : decode cX4_goOn 103 = .ok (.iinc 5 1, 3) := by decide +kernel
theorem dX4_goOn_106 : decode cX4_goOn 106 = .ok (.goto (-48), 3) := by decide +kernel
theorem dX4_goOn_109 : decode cX4_goOn 109 = .ok (.return_, 1) := by decide +kernel
set_option maxRecDepth 20000 in
theorem ggX4_meet_X2_stateNumber : GoodIn wsX4_meet wsX2_stateNumber := goodIn_r _ [13, 14, 15, 16, 17, 18, 19, 20, 21, 22, 23, 24, 25, 26, 27, 28, 29, 30, 31, 32, 51, 52, 53, 54, 55, 56, 57, 58, 59, 60, 61, 62, 63, 64, 65, 66, 67, 68] (by decide +kernel) (by decide +kernel)
set_option maxRecDepth 20000 in
theorem gX4_meet_X2_stateNumber : GoodIn wsX4_meet (wsV RX4 89 RX2 yX2_stateNumber wsX2_stateNumber) := goodIn_app (goodIn_of _ (by decide +kernel)) ggX4_meet_X2_stateNumber
set_option maxRecDepth 20000 in
theorem ggX4_meet_X4_addState : GoodIn wsX4_meet wsX4_addState := goodIn_r _ [37, 38, 39, 40, 44, 45, 46, 47, 48, 49, 50] (by decide +kernel) (by decide +kernel)
set_option maxRecDepth 20000 in
theorem gX4_meet_X4_addState : GoodIn wsX4_meet (wsV RX4 93 RX4 yX4_addState wsX4_addState) := goodIn_app (goodIn_of _ (by decide +kernel)) ggX4_meet_X4_addState
set_option maxRecDepth 20000 in
theorem ggX4_meet_X8_within : GoodIn wsX4_meet wsX8_within := goodIn_r _ [43] (by decide +kernel) (by decide +kernel)
set_option maxRecDepth 20000 in
theorem gX4_meet_X8_within_n65 : GoodIn wsX4_meet (wsX8_within) := ggX4_meet_X8_within
theorem dX4_meet_0 : decode cX4_meet 0 = .ok (.aload_n 0, 1) := by decide +kernel
theorem dX4_meet_1 : decode cX4_meet 1 = .ok (.aload_n 1, 1) := by decide +kernel
theorem dX4_meet_2 : decode cX4_meet 2 = .ok (.invokevirtual 89, 3) := by decide +kernel
theorem dX4_meet_5 : decode cX4_meet 5 = .ok (.invokevirtual 93, 3) := by decide +kernel
theorem dX4_meet_8 : decode cX4_meet 8 = .ok (.aload_n 0, 1) := by decide +kernel
theorem dX4_meet_9 : decode cX4_meet 9 = .ok (.aload_n 0, 1) := by decide +kernel
theorem dX4_meet_10 : decode cX4_meet 10 = .ok (.getfield 35, 3) := by decide +kernel
theorem dX4_meet_13 : decode cX4_meet 13 = .ok (.aload_n 1, 1) := by decide +kernel
theorem dX4_meet_14 : decode cX4_meet 14 = .ok (.getfield 58, 3) := by decide +kernel
theorem dX4_meet_17 : decode cX4_meet 17 = .ok (.invokestatic 97, 3) := by decide +kernel
theorem dX4_meet_20 : decode cX4_meet 20 = .ok (.putfield 35, 3) := by decide +kernel
theorem dX4_meet_23 : decode cX4_meet 23 = .ok (.aload_n 1, 1) := by decide +kernel
theorem dX4_meet_24 : decode cX4_meet 24 = .ok (.getfield 100, 3) := by decide +kernel
theorem dX4_meet_27 : decode cX4_meet 27 = .ok (.istore_n 3, 1) := by decide +kernel
theorem dX4_meet_28 : decode cX4_meet 28 = .ok (.iload_n 3, 1) := by decide +kernel
theorem dX4_meet_29 : decode cX4_meet 29 = .ok (.iconst 0, 1) := by decide +kernel
theorem dX4_meet_30 : decode cX4_meet 30 = .ok (.iconst 4, 1) := by decide +kernel
theorem dX4_meet_31 : decode cX4_meet 31 = .ok (.invokestatic 65, 3) := by decide +kernel
theorem dX4_meet_34 : decode cX4_meet 34 = .ok (.ifCond .eq 31, 3) := by decide +kernel
theorem dX4_meet_37 : decode cX4_meet 37 = .ok (.aload_n 0, 1) := by decide +kernel
theorem dX4_meet_38 : decode cX4_meet 38 = .ok (.getfield 21, 3) := by decide +kernel
theorem dX4_meet_41 : decode cX4_meet 41 = .ok (.iload_n 3, 1) := by decide +kernel
theorem dX4_meet_42 : decode cX4_meet 42 = .ok (.iaload, 1) := by decide +kernel
theorem dX4_meet_43 : decode cX4_meet 43 = .ok (.bipush (-9), 2) := by decide +kernel
theorem dX4_meet_45 : decode cX4_meet 45 = .ok (.if_icmp .eq 13, 3) := by decide +kernel
theorem dX4_meet_48 : decode cX4_meet 48 = .ok (.iload_n 2, 1) := by decide +kernel
theorem dX4_meet_49 : decode cX4_meet 49 = .ok (.aload_n 0, 1) := by decide +kernel
theorem dX4_meet_50 : decode cX4_meet 50 = .ok (.getfield 21, 3) := by decide +kernel
theorem dX4_meet_53 : decode cX4_meet 53 = .ok (.iload_n 3, 1) := by decide +kernel
theorem dX4_meet_54 : decode cX4_meet 54 = .ok (.iaload, 1) := by decide +kernel
theorem dX4_meet_55 : decode cX4_meet 55 = .ok (.if_icmp .ge 10, 3) := by decide +kernel
theorem dX4_meet_58 : decode cX4_meet 58 = .ok (.aload_n 0, 1) := by decide +kernel
theorem dX4_meet_59 : decode cX4_meet 59 = .ok (.getfield 21, 3) := by decide +kernel
theorem dX4_meet_62 : decode cX4_meet 62 = .ok (.iload_n 3, 1) := by decide +kernel
theorem dX4_meet_63 : decode cX4_meet 63 = .ok (.iload_n 2, 1) := by decide +kernel
theorem dX4_meet_64 : decode cX4_meet 64 = .ok (.iastore, 1) := by decide +kernel
theorem dX4_meet_65 : decode cX4_meet 65 = .ok (.return_, 1) := by decide +kernel
theorem dX4_addState_0 : decode cX4_addState 0 = .ok (.lload_n 1, 1) := by decide +kernel
theorem dX4_addState_1 : decode cX4_addState 1 = .ok (.ldc2_w 103, 3) := by decide +kernel
theorem dX4_addState_4 : decode cX4_addState 4 = .ok (.lmul, 1) := by decide +kernel
theorem dX4_addState_5 : decode cX4_addState 5 = .ok (.bipush 53, 2) := by decide +kernel
theorem dX4_addState_7 : decode cX4_addState 7 = .ok (.lushr, 1) := by decide +kernel
theorem dX4_addState_8 : decode cX4_addState 8 = .ok (.l2i, 1) := by decide +kernel
theorem dX4_addState_9 : decode cX4_addState 9 = .ok (.istore_n 3, 1) := by decide +kernel
theorem dX4_addState_10 : decode cX4_addState 10 = .ok (.iconst 0, 1) := by decide +kernel
theorem dX4_addState_11 : decode cX4_addState 11 = .ok (.istore 4, 2) := by decide +kernel
theorem dX4_addState_13 : decode cX4_addState 13 = .ok (.iload 4, 2) := by decide +kernel
theorem dX4_addState_15 : decode cX4_addState 15 = .ok (.sipush 2048, 3) := by decide +kernel
theorem dX4_addState_18 : decode cX4_addState 18 = .ok (.if_icmp .ge 63, 3) := by decide +kernel
theorem dX4_addState_21 : decode cX4_addState 21 = .ok (.iload_n 3, 1) := by decide +kernel
theorem dX4_addState_22 : decode cX4_addState 22 = .ok (.iload 4, 2) := by decide +kernel
theorem dX4_addState_24 : decode cX4_addState 24 = .ok (.iadd, 1) := by decide +kernel
theorem dX4_addState_25 : decode cX4_addState 25 = .ok (.sipush 2047, 3) := by decide +kernel
theorem dX4_addState_28 : decode cX4_addState 28 = .ok (.iand, 1) := by decide +kernel
theorem dX4_addState_29 : decode cX4_addState 29 = .ok (.istore 5, 2) := by decide +kernel
theorem dX4_addState_31 : decode cX4_addState 31 = .ok (.aload_n 0, 1) := by decide +kernel
theorem dX4_addState_32 : decode cX4_addState 32 = .ok (.getfield 17, 3) := by decide +kernel
theorem dX4_addState_35 : decode cX4_addState 35 = .ok (.iload 5, 2) := by decide +kernel
theorem dX4_addState_37 : decode cX4_addState 37 = .ok (.laload, 1) := by decide +kernel
theorem dX4_addState_38 : decode cX4_addState 38 = .ok (.lload_n 1, 1) := by decide +kernel
theorem dX4_addState_39 : decode cX4_addState 39 = .ok (.lcmp, 1) := by decide +kernel
theorem dX4_addState_40 : decode cX4_addState 40 = .ok (.ifCond .ne 4, 3) := by decide +kernel
theorem dX4_addState_43 : decode cX4_addState 43 = .ok (.return_, 1) := by decide +kernel
theorem dX4_addState_44 : decode cX4_addState 44 = .ok (.aload_n 0, 1) := by decide +kernel
theorem dX4_addState_45 : decode cX4_addState 45 = .ok (.getfield 17, 3) := by decide +kernel
theorem dX4_addState_48 : decode cX4_addState 48 = .ok (.iload 5, 2) := by decide +kernel
theorem dX4_addState_50 : decode cX4_addState 50 = .ok (.laload, 1) := by decide +kernel
theorem dX4_addState_51 : decode cX4_addState 51 = .ok (.lconst 0, 1) := by decide +kernel
theorem dX4_addState_52 : decode cX4_addState 52 = .ok (.lcmp, 1) := by decide +kernel
theorem dX4_addState_53 : decode cX4_addState 53 = .ok (.ifCond .ne 22, 3) := by decide +kernel
theorem dX4_addState_56 : decode cX4_addState 56 = .ok (.aload_n 0, 1) := by decide +kernel
theorem dX4_addState_57 : decode cX4_addState 57 = .ok (.getfield 17, 3) := by decide +kernel
theorem dX4_addState_60 : decode cX4_addState 60 = .ok (.iload 5, 2) := by decide +kernel
theorem dX4_addState_62 : decode cX4_addState 62 = .ok (.lload_n 1, 1) := by decide +kernel
theorem dX4_addState_63 : decode cX4_addState 63 = .ok (.lastore, 1) := by decide +kernel
theorem dX4_addState_64 : decode cX4_addState 64 = .ok (.aload_n 0, 1) := by decide +kernel
theorem dX4_addState_65 : decode cX4_addState 65 = .ok (.dup, 1) := by decide +kernel
theorem dX4_addState_66 : decode cX4_addState 66 = .ok (.getfield 32, 3) := by decide +kernel
theorem dX4_addState_69 : decode cX4_addState 69 = .ok (.iconst 1, 1) := by decide +kernel
theorem dX4_addState_70 : decode cX4_addState 70 = .ok (.iadd, 1) := by decide +kernel
theorem dX4_addState_71 : decode cX4_addState 71 = .ok (.putfield 32, 3) := by decide +kernel
theorem dX4_addState_74 : decode cX4_addState 74 = .ok (.return_, 1) := by decide +kernel
theorem dX4_addState_75 : decode cX4_addState 75 = .ok (.iinc 4 1, 3) := by decide +kernel
theorem dX4_addState_78 : decode cX4_addState 78 = .ok (.goto (-65), 3) := by decide +kernel
theorem dX4_addState_81 : decode cX4_addState 81 = .ok (.return_, 1) := by decide +kernel
theorem dX5_init_0 : decode cX5_init 0 = .ok (.aload_n 0, 1) := by decide +kernel
theorem dX5_init_1 : decode cX5_init 1 = .ok (.invokespecial 3, 3) := by decide +kernel
theorem dX5_init_4 : decode cX5_init 4 = .ok (.aload_n 0, 1) := by decide +kernel
theorem dX5_init_5 : decode cX5_init 5 = .ok (.iconst 2, 1) := by decide +kernel
theorem dX5_init_6 : decode cX5_init 6 = .ok (.putfield 9, 3) := by decide +kernel
theorem dX5_init_9 : decode cX5_init 9 = .ok (.aload_n 0, 1) := by decide +kernel
theorem dX5_init_10 : decode cX5_init 10 = .ok (.iconst 3, 1) := by decide +kernel
theorem dX5_init_11 : decode cX5_init 11 = .ok (.putfield 15, 3) := by decide +kernel
theorem dX5_init_14 : decode cX5_init 14 = .ok (.aload_n 0, 1) := by decide +kernel
theorem dX5_init_15 : decode cX5_init 15 = .ok (.bipush 12, 2) := by decide +kernel
theorem dX5_init_17 : decode cX5_init 17 = .ok (.putfield 18, 3) := by decide +kernel
theorem dX5_init_20 : decode cX5_init 20 = .ok (.aload_n 0, 1) := by decide +kernel
theorem dX5_init_21 : decode cX5_init 21 = .ok (.iconst 1, 1) := by decide +kernel
theorem dX5_init_22 : decode cX5_init 22 = .ok (.putfield 21, 3) := by decide +kernel
theorem dX5_init_25 : decode cX5_init 25 = .ok (.aload_n 0, 1) := by decide +kernel
theorem dX5_init_26 : decode cX5_init 26 = .ok (.iconst 4, 1) := by decide +kernel
theorem dX5_init_27 : decode cX5_init 27 = .ok (.putfield 24, 3) := by decide +kernel
theorem dX5_init_30 : decode cX5_init 30 = .ok (.return_, 1) := by decide +kernel
theorem dX5_become_0 : decode cX5_become 0 = .ok (.aload_n 0, 1) := by decide +kernel
theorem dX5_become_1 : decode cX5_become 1 = .ok (.iload_n 1, 1) := by decide +kernel
theorem dX5_become_2 : decode cX5_become 2 = .ok (.putfield 9, 3) := by decide +kernel
theorem dX5_become_5 : decode cX5_become 5 = .ok (.aload_n 0, 1) := by decide +kernel
theorem dX5_become_6 : decode cX5_become 6 = .ok (.iload_n 2, 1) := by decide +kernel
theorem dX5_become_7 : decode cX5_become 7 = .ok (.putfield 15, 3) := by decide +kernel
theorem dX5_become_10 : decode cX5_become 10 = .ok (.aload_n 0, 1) := by decide +kernel
theorem dX5_become_11 : decode cX5_become 11 = .ok (.iload_n 3, 1) := by decide +kernel
theorem dX5_become_12 : decode cX5_become 12 = .ok (.putfield 18, 3) := by decide +kernel
theorem dX5_become_15 : decode cX5_become 15 = .ok (.aload_n 0, 1) := by decide +kernel
theorem dX5_become_16 : decode cX5_become 16 = .ok (.iload 4, 2) := by decide +kernel
theorem dX5_become_18 : decode cX5_become 18 = .ok (.putfield 21, 3) := by decide +kernel
theorem dX5_become_21 : decode cX5_become 21 = .ok (.aload_n 0, 1) := by decide +kernel
theorem dX5_become_22 : decode cX5_become 22 = .ok (.iload 5, 2) := by decide +kernel
theorem dX5_become_24 : decode cX5_become 24 = .ok (.putfield 24, 3) := by decide +kernel
theorem dX5_become_27 : decode cX5_become 27 = .ok (.return_, 1) := by decide +kernel
theorem dX5_part_0 : decode cX5_part 0 = .ok (.iload_n 1, 1) := by decide +kernel
theorem dX5_part_1 : decode cX5_part 1 = .ok (.tableswitch 60 0 4 #[35, 40, 45, 50, 55], 35) := by decide +kernel
theorem dX5_part_36 : decode cX5_part 36 = .ok (.aload_n 0, 1) := by decide +kernel
theorem dX5_part_37 : decode cX5_part 37 = .ok (.getfield 9, 3) := by decide +kernel
theorem dX5_part_40 : decode cX5_part 40 = .ok (.ireturn, 1) := by decide +kernel
theorem dX5_part_41 : decode cX5_part 41 = .ok (.aload_n 0, 1) := by decide +kernel
theorem dX5_part_42 : decode cX5_part 42 = .ok (.getfield 15, 3) := by decide +kernel
theorem dX5_part_45 : decode cX5_part 45 = .ok (.ireturn, 1) := by decide +kernel
theorem dX5_part_46 : decode cX5_part 46 = .ok (.aload_n 0, 1) := by decide +kernel
theorem dX5_part_47 : decode cX5_part 47 = .ok (.getfield 18, 3) := by decide +kernel
theorem dX5_part_50 : decode cX5_part 50 = .ok (.ireturn, 1) := by decide +kernel
theorem dX5_part_51 : decode cX5_part 51 = .ok (.aload_n 0, 1) := by decide +kernel
theorem dX5_part_52 : decode cX5_part 52 = .ok (.getfield 21, 3) := by decide +kernel
theorem dX5_part_55 : decode cX5_part 55 = .ok (.ireturn, 1) := by decide +kernel
theorem dX5_part_56 : decode cX5_part 56 = .ok (.aload_n 0, 1) := by decide +kernel
theorem dX5_part_57 : decode cX5_part 57 = .ok (.getfield 24, 3) := by decide +kernel
theorem dX5_part_60 : decode cX5_part 60 = .ok (.ireturn, 1) := by decide +kernel
theorem dX5_part_61 : decode cX5_part 61 = .ok (.bipush (-2), 2) := by decide +kernel
theorem dX5_part_63 : decode cX5_part 63 = .ok (.ireturn, 1) := by decide +kernel
set_option maxRecDepth 20000 in
theorem ggX6_init_X0_init : GoodIn wsX6_init wsX0_init := goodIn_r _ [15, 16, 2, 3, 17, 18, 19, 20, 43, 44, 45, 46] (by decide +kernel) (by decide +kernel)
set_option maxRecDepth 20000 in
theorem gX6_init_X0_init_n11 : GoodIn wsX6_init (wsX0_init) := ggX6_init_X0_init
set_option maxRecDepth 20000 in
theorem ggX6_init_X2_init : GoodIn wsX6_init wsX2_init := goodIn_r _ [23, 24, 2, 3, 25, 26, 27, 28, 29, 30, 31, 32, 33, 34, 35, 36, 37, 38, 39, 40, 41, 42, 51, 52, 53, 54, 55, 56, 57, 58, 59, 60, 61, 62, 63, 64, 65, 66, 67, 68] (by decide +kernel) (by decide +kernel)
set_option maxRecDepth 20000 in
theorem gX6_init_X2_init : GoodIn wsX6_init (wsX2_init) := ggX6_init_X2_init
theorem dX6_init_0 : decode cX6_init 0 = .ok (.aload_n 0, 1) := by decide +kernel
theorem dX6_init_1 : decode cX6_init 1 = .ok (.invokespecial 3, 3) := by decide +kernel
theorem dX6_init_4 : decode cX6_init 4 = .ok (.aload_n 0, 1) := by decide +kernel
theorem dX6_init_5 : decode cX6_init 5 = .ok (.new 9, 3) := by decide +kernel
theorem dX6_init_8 : decode cX6_init 8 = .ok (.dup, 1) := by decide +kernel
theorem dX6_init_9 : decode cX6_init 9 = .ok (.invokespecial 11, 3) := by decide +kernel
theorem dX6_init_12 : decode cX6_init 12 = .ok (.putfield 12, 3) := by decide +kernel
theorem dX6_init_15 : decode cX6_init 15 = .ok (.aload_n 0, 1) := by decide +kernel
theorem dX6_init_16 : decode cX6_init 16 = .ok (.bipush (-9), 2) := by decide +kernel
theorem dX6_init_18 : decode cX6_init 18 = .ok (.putfield 18, 3) := by decide +kernel
theorem dX6_init_21 : decode cX6_init 21 = .ok (.aload_n 0, 1) := by decide +kernel
theorem dX6_init_22 : decode cX6_init 22 = .ok (.bipush (-9), 2) := by decide +kernel
theorem dX6_init_24 : decode cX6_init 24 = .ok (.putfield 22, 3) := by decide +kernel
theorem dX6_init_27 : decode cX6_init 27 = .ok (.aload_n 0, 1) := by decide +kernel
theorem dX6_init_28 : decode cX6_init 28 = .ok (.new 25, 3) := by decide +kernel
theorem dX6_init_31 : decode cX6_init 31 = .ok (.dup, 1) := by decide +kernel
theorem dX6_init_32 : decode cX6_init 32 = .ok (.aload_n 1, 1) := by decide +kernel
theorem dX6_init_33 : decode cX6_init 33 = .ok (.aload_n 0, 1) := by decide +kernel
theorem dX6_init_34 : decode cX6_init 34 = .ok (.getfield 12, 3) := by decide +kernel
theorem dX6_init_37 : decode cX6_init 37 = .ok (.invokespecial 27, 3) := by decide +kernel
theorem dX6_init_40 : decode cX6_init 40 = .ok (.putfield 30, 3) := by decide +kernel
theorem dX6_init_43 : decode cX6_init 43 = .ok (.return_, 1) := by decide +kernel
set_option maxRecDepth 20000 in
theorem ggX6_run_X0_clear : GoodIn wsX6_run wsX0_clear := goodIn_r _ [12, 13, 14, 15, 16, 152, 153, 154, 155] (by decide +kernel) (by decide +kernel)
set_option maxRecDepth 20000 in
theorem gX6_run_X0_clear : GoodIn wsX6_run (wsV RX6 34 RX0 yX0_clear wsX0_clear) := goodIn_app (goodIn_of _ (by decide +kernel)) ggX6_run_X0_clear
set_option maxRecDepth 20000 in
theorem ggX6_run_X2_begin : GoodIn wsX6_run wsX2_begin := goodIn_r _ [21, 22, 23, 24, 25, 26, 27, 28, 29, 30, 31, 32, 33, 34, 35, 36, 37, 134, 135, 136, 137, 138, 139, 140, 141, 142, 143, 144, 145, 146, 147, 148, 149, 150, 151] (by decide +kernel) (by decide +kernel)
set_option maxRecDepth 20000 in
theorem gX6_run_X2_begin : GoodIn wsX6_run (wsV RX6 37 RX2 yX2_begin wsX2_begin) := goodIn_app (goodIn_of _ (by decide +kernel)) ggX6_run_X2_begin
set_option maxRecDepth 20000 in
theorem ggX6_run_X0_setInput : GoodIn wsX6_run wsX0_setInput := goodIn_r _ [41, 13, 14, 152, 153, 154, 155] (by decide +kernel) (by decide +kernel)
set_option maxRecDepth 20000 in
theorem gX6_run_X0_setInput : GoodIn wsX6_run (wsV RX6 45 RX0 yX0_setInput wsX0_setInput) := goodIn_app (goodIn_of _ (by decide +kernel)) ggX6_run_X0_setInput
set_option maxRecDepth 20000 in
theorem ggX6_run_X3_setAt : GoodIn wsX6_run wsX3_setAt := goodIn_r _ [46, 47, 48, 49, 50, 132, 133] (by decide +kernel) (by decide +kernel)
set_option maxRecDepth 20000 in
theorem gX6_run_X3_setAt : GoodIn wsX6_run (wsV RX6 49 RX3 yX3_setAt wsX3_setAt) := goodIn_app (goodIn_of _ (by decide +kernel)) ggX6_run_X3_setAt
set_option maxRecDepth 20000 in
theorem ggX6_run_X2_advance : GoodIn wsX6_run wsX2_advance := goodIn_r _ [54, 55, 27, 28, 29, 23, 31, 30, 22, 34, 56, 57, 58, 11, 59, 14, 13, 60, 61, 20, 62, 63, 49, 64, 65, 66, 67, 68, 69, 70, 71, 72, 73, 74, 75, 76, 77, 78, 25, 26, 79, 80, 81, 82, 83, 84, 85, 86, 87, 88, 89, 90, 91, 92, 24, 93, 94, 95, 96, 97, 98, 99, 100, 101, 15, 16, 102, 103, 104, 105, 106, 107, 108, 32, 35, 109, 110, 111, 112, 113, 114, 115, 116, 117, 118, 119, 33, 36, 120, 121, 122, 123, 124, 125, 126, 127, 37, 134, 135, 136, 137, 138, 139, 140, 141, 142, 143, 144, 145, 146, 147, 148, 149, 150, 151, 152, 153, 154, 155, 156, 157, 158, 159, 160] (by decide +kernel) (by decide +kernel)
set_option maxRecDepth 20000 in
theorem gX6_run_X2_advance : GoodIn wsX6_run (wsV RX6 53 RX2 yX2_advance wsX2_advance) := goodIn_app (goodIn_of _ (by decide +kernel)) ggX6_run_X2_advance
theorem dX6_run_0 : decode cX6_run 0 = .ok (.aload_n 0, 1) := by decide +kernel
theorem dX6_run_1 : decode cX6_run 1 = .ok (.getfield 12, 3) := by decide +kernel
theorem dX6_run_4 : decode cX6_run 4 = .ok (.invokevirtual 34, 3) := by decide +kernel
theorem dX6_run_7 : decode cX6_run 7 = .ok (.aload_n 0, 1) := by decide +kernel
theorem dX6_run_8 : decode cX6_run 8 = .ok (.getfield 30, 3) := by decide +kernel
theorem dX6_run_11 : decode cX6_run 11 = .ok (.invokevirtual 37, 3) := by decide +kernel
theorem dX6_run_14 : decode cX6_run 14 = .ok (.aload_n 0, 1) := by decide +kernel
theorem dX6_run_15 : decode cX6_run 15 = .ok (.bipush (-9), 2) := by decide +kernel
theorem dX6_run_17 : decode cX6_run 17 = .ok (.putfield 18, 3) := by decide +kernel
theorem dX6_run_20 : decode cX6_run 20 = .ok (.aload_n 0, 1) := by decide +kernel
theorem dX6_run_21 : decode cX6_run 21 = .ok (.bipush (-9), 2) := by decide +kernel
theorem dX6_run_23 : decode cX6_run 23 = .ok (.putfield 22, 3) := by decide +kernel
theorem dX6_run_26 : decode cX6_run 26 = .ok (.iconst 0, 1) := by decide +kernel
theorem dX6_run_27 : decode cX6_run 27 = .ok (.istore 5, 2) := by decide +kernel
theorem dX6_run_29 : decode cX6_run 29 = .ok (.iload 5, 2) := by decide +kernel
theorem dX6_run_31 : decode cX6_run 31 = .ok (.aload_n 1, 1) := by decide +kernel
theorem dX6_run_32 : decode cX6_run 32 = .ok (.getfield 40, 3) := by decide +kernel
theorem dX6_run_35 : decode cX6_run 35 = .ok (.if_icmp .ge 76, 3) := by decide +kernel
theorem dX6_run_38 : decode cX6_run 38 = .ok (.iload 5, 2) := by decide +kernel
theorem dX6_run_40 : decode cX6_run 40 = .ok (.iload 4, 2) := by decide +kernel
theorem dX6_run_42 : decode cX6_run 42 = .ok (.if_icmp .ne 12, 3) := by decide +kernel
theorem dX6_run_45 : decode cX6_run 45 = .ok (.aload_n 0, 1) := by decide +kernel
theorem dX6_run_46 : decode cX6_run 46 = .ok (.getfield 12, 3) := by decide +kernel
theorem dX6_run_49 : decode cX6_run 49 = .ok (.iload_n 2, 1) := by decide +kernel
theorem dX6_run_50 : decode cX6_run 50 = .ok (.iload_n 3, 1) := by decide +kernel
theorem dX6_run_51 : decode cX6_run 51 = .ok (.invokevirtual 45, 3) := by decide +kernel
theorem dX6_run_54 : decode cX6_run 54 = .ok (.aload_n 0, 1) := by decide +kernel
theorem dX6_run_55 : decode cX6_run 55 = .ok (.getfield 30, 3) := by decide +kernel
theorem dX6_run_58 : decode cX6_run 58 = .ok (.aload_n 1, 1) := by decide +kernel
theorem dX6_run_59 : decode cX6_run 59 = .ok (.iload 5, 2) := by decide +kernel
theorem dX6_run_61 : decode cX6_run 61 = .ok (.invokevirtual 49, 3) := by decide +kernel
theorem dX6_run_64 : decode cX6_run 64 = .ok (.invokevirtual 53, 3) := by decide +kernel
theorem dX6_run_67 : decode cX6_run 67 = .ok (.aload_n 0, 1) := by decide +kernel
theorem dX6_run_68 : decode cX6_run 68 = .ok (.getfield 18, 3) := by decide +kernel
theorem dX6_run_71 : decode cX6_run 71 = .ok (.bipush (-9), 2) := by decide +kernel
theorem dX6_run_73 : decode cX6_run 73 = .ok (.if_icmp .ne 32, 3) := by decide +kernel
theorem dX6_run_76 : decode cX6_run 76 = .ok (.aload_n 0, 1) := by decide +kernel
theorem dX6_run_77 : decode cX6_run 77 = .ok (.getfield 30, 3) := by decide +kernel
theorem dX6_run_80 : decode cX6_run 80 = .ok (.getfield 57, 3) := by decide +kernel
theorem dX6_run_83 : decode cX6_run 83 = .ok (.ifCond .ne 22, 3) := by decide +kernel
theorem dX6_run_86 : decode cX6_run 86 = .ok (.aload_n 0, 1) := by decide +kernel
theorem dX6_run_87 : decode cX6_run 87 = .ok (.iload 5, 2) := by decide +kernel
theorem dX6_run_89 : decode cX6_run 89 = .ok (.iconst 1, 1) := by decide +kernel
theorem dX6_run_90 : decode cX6_run 90 = .ok (.iadd, 1) := by decide +kernel
theorem dX6_run_91 : decode cX6_run 91 = .ok (.putfield 18, 3) := by decide +kernel
theorem dX6_run_94 : decode cX6_run 94 = .ok (.aload_n 0, 1) := by decide +kernel
theorem dX6_run_95 : decode cX6_run 95 = .ok (.aload_n 0, 1) := by decide +kernel
theorem dX6_run_96 : decode cX6_run 96 = .ok (.getfield 30, 3) := by decide +kernel
theorem dX6_run_99 : decode cX6_run 99 = .ok (.getfield 60, 3) := by decide +kernel
theorem dX6_run_102 : decode cX6_run 102 = .ok (.putfield 22, 3) := by decide +kernel
theorem dX6_run_105 : decode cX6_run 105 = .ok (.iinc 5 1, 3) := by decide +kernel
theorem dX6_run_108 : decode cX6_run 108 = .ok (.goto (-79), 3) := by decide +kernel
theorem dX6_run_111 : decode cX6_run 111 = .ok (.return_, 1) := by decide +kernel
theorem dX6_part_0 : decode cX6_part 0 = .ok (.iload_n 1, 1) := by decide +kernel
theorem dX6_part_1 : decode cX6_part 1 = .ok (.tableswitch 69 0 4 #[35, 43, 48, 53, 61], 35) := by decide +kernel
theorem dX6_part_36 : decode cX6_part 36 = .ok (.aload_n 0, 1) := by decide +kernel
theorem dX6_part_37 : decode cX6_part 37 = .ok (.getfield 30, 3) := by decide +kernel
theorem dX6_part_40 : decode cX6_part 40 = .ok (.getfield 63, 3) := by decide +kernel
theorem dX6_part_43 : decode cX6_part 43 = .ok (.ireturn, 1) := by decide +kernel
theorem dX6_part_44 : decode cX6_part 44 = .ok (.aload_n 0, 1) := by decide +kernel
theorem dX6_part_45 : decode cX6_part 45 = .ok (.getfield 18, 3) := by decide +kernel
theorem dX6_part_48 : decode cX6_part 48 = .ok (.ireturn, 1) := by decide +kernel
theorem dX6_part_49 : decode cX6_part 49 = .ok (.aload_n 0, 1) := by decide +kernel
theorem dX6_part_50 : decode cX6_part 50 = .ok (.getfield 22, 3) := by decide +kernel
theorem dX6_part_53 : decode cX6_part 53 = .ok (.ireturn, 1) := by decide +kernel
theorem dX6_part_54 : decode cX6_part 54 = .ok (.aload_n 0, 1) := by decide +kernel
theorem dX6_part_55 : decode cX6_part 55 = .ok (.getfield 30, 3) := by decide +kernel
theorem dX6_part_58 : decode cX6_part 58 = .ok (.getfield 57, 3) := by decide +kernel
theorem dX6_part_61 : decode cX6_part 61 = .ok (.ireturn, 1) := by decide +kernel
theorem dX6_part_62 : decode cX6_part 62 = .ok (.aload_n 0, 1) := by decide +kernel
theorem dX6_part_63 : decode cX6_part 63 = .ok (.getfield 30, 3) := by decide +kernel
theorem dX6_part_66 : decode cX6_part 66 = .ok (.getfield 66, 3) := by decide +kernel
theorem dX6_part_69 : decode cX6_part 69 = .ok (.ireturn, 1) := by decide +kernel
theorem dX6_part_70 : decode cX6_part 70 = .ok (.bipush (-2), 2) := by decide +kernel
theorem dX6_part_72 : decode cX6_part 72 = .ok (.ireturn, 1) := by decide +kernel
theorem dX7_init_0 : decode cX7_init 0 = .ok (.aload_n 0, 1) := by decide +kernel
theorem dX7_init_1 : decode cX7_init 1 = .ok (.invokespecial 3, 3) := by decide +kernel
theorem dX7_init_4 : decode cX7_init 4 = .ok (.aload_n 0, 1) := by decide +kernel
theorem dX7_init_5 : decode cX7_init 5 = .ok (.iconst 0, 1) := by decide +kernel
theorem dX7_init_6 : decode cX7_init 6 = .ok (.putfield 9, 3) := by decide +kernel
theorem dX7_init_9 : decode cX7_init 9 = .ok (.aload_n 0, 1) := by decide +kernel
theorem dX7_init_10 : decode cX7_init 10 = .ok (.iconst 0, 1) := by decide +kernel
theorem dX7_init_11 : decode cX7_init 11 = .ok (.putfield 15, 3) := by decide +kernel
theorem dX7_init_14 : decode cX7_init 14 = .ok (.aload_n 0, 1) := by decide +kernel
theorem dX7_init_15 : decode cX7_init 15 = .ok (.iconst 0, 1) := by decide +kernel
theorem dX7_init_16 : decode cX7_init 16 = .ok (.putfield 18, 3) := by decide +kernel
theorem dX7_init_19 : decode cX7_init 19 = .ok (.aload_n 0, 1) := by decide +kernel
theorem dX7_init_20 : decode cX7_init 20 = .ok (.iconst 0, 1) := by decide +kernel
theorem dX7_init_21 : decode cX7_init 21 = .ok (.putfield 21, 3) := by decide +kernel
theorem dX7_init_24 : decode cX7_init 24 = .ok (.aload_n 0, 1) := by decide +kernel
theorem dX7_init_25 : decode cX7_init 25 = .ok (.bipush (-9), 2) := by decide +kernel
theorem dX7_init_27 : decode cX7_init 27 = .ok (.putfield 24, 3) := by decide +kernel
theorem dX7_init_30 : decode cX7_init 30 = .ok (.aload_n 0, 1) := by decide +kernel
theorem dX7_init_31 : decode cX7_init 31 = .ok (.iconst 0, 1) := by decide +kernel
theorem dX7_init_32 : decode cX7_init 32 = .ok (.putfield 27, 3) := by decide +kernel
theorem dX7_init_35 : decode cX7_init 35 = .ok (.aload_n 0, 1) := by decide +kernel
theorem dX7_init_36 : decode cX7_init 36 = .ok (.iconst 0, 1) := by decide +kernel
theorem dX7_init_37 : decode cX7_init 37 = .ok (.putfield 30, 3) := by decide +kernel
theorem dX7_init_40 : decode cX7_init 40 = .ok (.return_, 1) := by decide +kernel
theorem dX7_begin_0 : decode cX7_begin 0 = .ok (.aload_n 0, 1) := by decide +kernel
theorem dX7_begin_1 : decode cX7_begin 1 = .ok (.iload_n 1, 1) := by decide +kernel
theorem dX7_begin_2 : decode cX7_begin 2 = .ok (.putfield 9, 3) := by decide +kernel
theorem dX7_begin_5 : decode cX7_begin 5 = .ok (.aload_n 0, 1) := by decide +kernel
theorem dX7_begin_6 : decode cX7_begin 6 = .ok (.iconst 0, 1) := by decide +kernel
theorem dX7_begin_7 : decode cX7_begin 7 = .ok (.putfield 15, 3) := by decide +kernel
theorem dX7_begin_10 : decode cX7_begin 10 = .ok (.aload_n 0, 1) := by decide +kernel
theorem dX7_begin_11 : decode cX7_begin 11 = .ok (.iconst 0, 1) := by decide +kernel
theorem dX7_begin_12 : decode cX7_begin 12 = .ok (.putfield 18, 3) := by decide +kernel
theorem dX7_begin_15 : decode cX7_begin 15 = .ok (.aload_n 0, 1) := by decide +kernel
theorem dX7_begin_16 : decode cX7_begin 16 = .ok (.iconst 0, 1) := by decide +kernel
theorem dX7_begin_17 : decode cX7_begin 17 = .ok (.putfield 21, 3) := by decide +kernel
theorem dX7_begin_20 : decode cX7_begin 20 = .ok (.aload_n 0, 1) := by decide +kernel
theorem dX7_begin_21 : decode cX7_begin 21 = .ok (.bipush (-9), 2) := by decide +kernel
theorem dX7_begin_23 : decode cX7_begin 23 = .ok (.putfield 24, 3) := by decide +kernel
theorem dX7_begin_26 : decode cX7_begin 26 = .ok (.aload_n 0, 1) := by decide +kernel
theorem dX7_begin_27 : decode cX7_begin 27 = .ok (.iconst 0, 1) := by decide +kernel
theorem dX7_begin_28 : decode cX7_begin 28 = .ok (.putfield 27, 3) := by decide +kernel
theorem dX7_begin_31 : decode cX7_begin 31 = .ok (.aload_n 0, 1) := by decide +kernel
theorem dX7_begin_32 : decode cX7_begin 32 = .ok (.iconst 0, 1) := by decide +kernel
theorem dX7_begin_33 : decode cX7_begin 33 = .ok (.putfield 30, 3) := by decide +kernel
theorem dX7_begin_36 : decode cX7_begin 36 = .ok (.return_, 1) := by decide +kernel
theorem dX7_add_0 : decode cX7_add 0 = .ok (.aload_n 0, 1) := by decide +kernel
theorem dX7_add_1 : decode cX7_add 1 = .ok (.dup, 1) := by decide +kernel
theorem dX7_add_2 : decode cX7_add 2 = .ok (.getfield 15, 3) := by decide +kernel
theorem dX7_add_5 : decode cX7_add 5 = .ok (.iconst 1, 1) := by decide +kernel
theorem dX7_add_6 : decode cX7_add 6 = .ok (.iadd, 1) := by decide +kernel
theorem dX7_add_7 : decode cX7_add 7 = .ok (.putfield 15, 3) := by decide +kernel
theorem dX7_add_10 : decode cX7_add 10 = .ok (.aload_n 1, 1) := by decide +kernel
theorem dX7_add_11 : decode cX7_add 11 = .ok (.getfield 33, 3) := by decide +kernel
theorem dX7_add_14 : decode cX7_add 14 = .ok (.getfield 39, 3) := by decide +kernel
theorem dX7_add_17 : decode cX7_add 17 = .ok (.ifCond .le 13, 3) := by decide +kernel
theorem dX7_add_20 : decode cX7_add 20 = .ok (.aload_n 0, 1) := by decide +kernel
theorem dX7_add_21 : decode cX7_add 21 = .ok (.dup, 1) := by decide +kernel
theorem dX7_add_22 : decode cX7_add 22 = .ok (.getfield 18, 3) := by decide +kernel
theorem dX7_add_25 : decode cX7_add 25 = .ok (.iconst 1, 1) := by decide +kernel
theorem dX7_add_26 : decode cX7_add 26 = .ok (.iadd, 1) := by decide +kernel
theorem dX7_add_27 : decode cX7_add 27 = .ok (.putfield 18, 3) := by decide +kernel
theorem dX7_add_30 : decode cX7_add 30 = .ok (.aload_n 1, 1) := by decide +kernel
theorem dX7_add_31 : decode cX7_add 31 = .ok (.getfield 44, 3) := by decide +kernel
theorem dX7_add_34 : decode cX7_add 34 = .ok (.bipush (-9), 2) := by decide +kernel
theorem dX7_add_36 : decode cX7_add 36 = .ok (.if_icmp .eq 13, 3) := by decide +kernel
theorem dX7_add_39 : decode cX7_add 39 = .ok (.aload_n 0, 1) := by decide +kernel
theorem dX7_add_40 : decode cX7_add 40 = .ok (.dup, 1) := by decide +kernel
theorem dX7_add_41 : decode cX7_add 41 = .ok (.getfield 21, 3) := by decide +kernel
theorem dX7_add_44 : decode cX7_add 44 = .ok (.iconst 1, 1) := by decide +kernel
theorem dX7_add_45 : decode cX7_add 45 = .ok (.iadd, 1) := by decide +kernel
theorem dX7_add_46 : decode cX7_add 46 = .ok (.putfield 21, 3) := by decide +kernel
theorem dX7_add_49 : decode cX7_add 49 = .ok (.aload_n 1, 1) := by decide +kernel
theorem dX7_add_50 : decode cX7_add 50 = .ok (.getfield 44, 3) := by decide +kernel
theorem dX7_add_53 : decode cX7_add 53 = .ok (.iload_n 2, 1) := by decide +kernel
theorem dX7_add_54 : decode cX7_add 54 = .ok (.if_icmp .le 20, 3) := by decide +kernel
theorem dX7_add_57 : decode cX7_add 57 = .ok (.aload_n 0, 1) := by decide +kernel
theorem dX7_add_58 : decode cX7_add 58 = .ok (.aload_n 0, 1) := by decide +kernel
theorem dX7_add_59 : decode cX7_add 59 = .ok (.getfield 24, 3) := by decide +kernel
theorem dX7_add_62 : decode cX7_add 62 = .ok (.aload_n 1, 1) := by decide +kernel
theorem dX7_add_63 : decode cX7_add 63 = .ok (.getfield 44, 3) := by decide +kernel
theorem dX7_add_66 : decode cX7_add 66 = .ok (.iload_n 2, 1) := by decide +kernel
theorem dX7_add_67 : decode cX7_add 67 = .ok (.isub, 1) := by decide +kernel
theorem dX7_add_68 : decode cX7_add 68 = .ok (.invokestatic 47, 3) := by decide +kernel
theorem dX7_add_71 : decode cX7_add 71 = .ok (.putfield 24, 3) := by decide +kernel
theorem dX7_add_74 : decode cX7_add 74 = .ok (.aload_n 0, 1) := by decide +kernel
theorem dX7_add_75 : decode cX7_add 75 = .ok (.aload_n 0, 1) := by decide +kernel
theorem dX7_add_76 : decode cX7_add 76 = .ok (.getfield 27, 3) := by decide +kernel
theorem dX7_add_79 : decode cX7_add 79 = .ok (.aload_n 1, 1) := by decide +kernel
theorem dX7_add_80 : decode cX7_add 80 = .ok (.getfield 33, 3) := by decide +kernel
theorem dX7_add_83 : decode cX7_add 83 = .ok (.getfield 39, 3) := by decide +kernel
theorem dX7_add_86 : decode cX7_add 86 = .ok (.invokestatic 47, 3) := by decide +kernel
theorem dX7_add_89 : decode cX7_add 89 = .ok (.putfield 27, 3) := by decide +kernel
theorem dX7_add_92 : decode cX7_add 92 = .ok (.aload_n 1, 1) := by decide +kernel
theorem dX7_add_93 : decode cX7_add 93 = .ok (.getfield 33, 3) := by decide +kernel
theorem dX7_add_96 : decode cX7_add 96 = .ok (.getfield 53, 3) := by decide +kernel
theorem dX7_add_99 : decode cX7_add 99 = .ok (.aload_n 0, 1) := by decide +kernel
theorem dX7_add_100 : decode cX7_add 100 = .ok (.getfield 9, 3) := by decide +kernel
theorem dX7_add_103 : decode cX7_add 103 = .ok (.if_icmp .ge 13, 3) := by decide +kernel
theorem dX7_add_106 : decode cX7_add 106 = .ok (.aload_n 0, 1) := by decide +kernel
theorem dX7_add_107 : decode cX7_add 107 = .ok (.dup, 1) := by decide +kernel
theorem dX7_add_108 : decode cX7_add 108 = .ok (.getfield 30, 3) := by decide +kernel
theorem dX7_add_111 : decode cX7_add 111 = .ok (.iconst 1, 1) := by decide +kernel
theorem dX7_add_112 : decode cX7_add 112 = .ok (.iadd, 1) := by decide +kernel
theorem dX7_add_113 : decode cX7_add 113 = .ok (.putfield 30, 3) := by decide +kernel
theorem dX7_add_116 : decode cX7_add 116 = .ok (.return_, 1) := by decide +kernel
theorem dX7_part_0 : decode cX7_part 0 = .ok (.iload_n 1, 1) := by decide +kernel
theorem dX7_part_1 : decode cX7_part 1 = .ok (.tableswitch 69 0 5 #[39, 44, 49, 54, 59, 64], 39) := by decide +kernel
theorem dX7_part_40 : decode cX7_part 40 = .ok (.aload_n 0, 1) := by decide +kernel
theorem dX7_part_41 : decode cX7_part 41 = .ok (.getfield 15, 3) := by decide +kernel
theorem dX7_part_44 : decode cX7_part 44 = .ok (.ireturn, 1) := by decide +kernel
theorem dX7_part_45 : decode cX7_part 45 = .ok (.aload_n 0, 1) := by decide +kernel
theorem dX7_part_46 : decode cX7_part 46 = .ok (.getfield 18, 3) := by decide +kernel
theorem dX7_part_49 : decode cX7_part 49 = .ok (.ireturn, 1) := by decide +kernel
theorem dX7_part_50 : decode cX7_part 50 = .ok (.aload_n 0, 1) := by decide +kernel
theorem dX7_part_51 : decode cX7_part 51 = .ok (.getfield 21, 3) := by decide +kernel
theorem dX7_part_54 : decode cX7_part 54 = .ok (.ireturn, 1) := by decide +kernel
theorem dX7_part_55 : decode cX7_part 55 = .ok (.aload_n 0, 1) := by decide +kernel
theorem dX7_part_56 : decode cX7_part 56 = .ok (.getfield 24, 3) := by decide +kernel
theorem dX7_part_59 : decode cX7_part 59 = .ok (.ireturn, 1) := by decide +kernel
theorem dX7_part_60 : decode cX7_part 60 = .ok (.aload_n 0, 1) := by decide +kernel
theorem dX7_part_61 : decode cX7_part 61 = .ok (.getfield 27, 3) := by decide +kernel
theorem dX7_part_64 : decode cX7_part 64 = .ok (.ireturn, 1) := by decide +kernel
theorem dX7_part_65 : decode cX7_part 65 = .ok (.aload_n 0, 1) := by decide +kernel
theorem dX7_part_66 : decode cX7_part 66 = .ok (.getfield 30, 3) := by decide +kernel
theorem dX7_part_69 : decode cX7_part 69 = .ok (.ireturn, 1) := by decide +kernel
theorem dX7_part_70 : decode cX7_part 70 = .ok (.bipush (-2), 2) := by decide +kernel
theorem dX7_part_72 : decode cX7_part 72 = .ok (.ireturn, 1) := by decide +kernel
set_option maxRecDepth 20000 in
theorem ggX8_init_X5_init : GoodIn wsX8_init wsX5_init := goodIn_r _ [39, 40, 2, 3, 41, 42, 43, 44, 45, 126, 127, 128, 129, 130] (by decide +kernel) (by decide +kernel)
set_option maxRecDepth 20000 in
theorem gX8_init_X5_init_n9 : GoodIn wsX8_init (wsX5_init) := ggX8_init_X5_init
set_option maxRecDepth 20000 in
theorem ggX8_init_X0_init : GoodIn wsX8_init wsX0_init := goodIn_r _ [47, 48, 2, 3, 49, 50, 51, 52, 141, 142, 143, 144] (by decide +kernel) (by decide +kernel)
set_option maxRecDepth 20000 in
theorem gX8_init_X0_init_n18 : GoodIn wsX8_init (wsX0_init) := ggX8_init_X0_init
set_option maxRecDepth 20000 in
theorem ggX8_init_X2_init : GoodIn wsX8_init wsX2_init := goodIn_r _ [55, 56, 2, 3, 57, 58, 59, 60, 61, 62, 63, 64, 65, 66, 67, 68, 69, 70, 71, 72, 73, 74, 145, 146, 147, 148, 149, 150, 151, 152, 153, 154, 155, 156, 157, 158, 159, 160, 161, 162] (by decide +kernel) (by decide +kernel)
set_option maxRecDepth 20000 in
theorem gX8_init_X2_init : GoodIn wsX8_init (wsX2_init) := ggX8_init_X2_init
set_option maxRecDepth 20000 in
theorem ggX8_init_X1_init : GoodIn wsX8_init wsX1_init := goodIn_r _ [76, 77, 2, 3, 78, 79, 80, 81, 82, 83, 84, 85, 163, 164, 165, 166, 167, 168, 169] (by decide +kernel) (by decide +kernel)
set_option maxRecDepth 20000 in
theorem gX8_init_X1_init_n37 : GoodIn wsX8_init (wsX1_init) := ggX8_init_X1_init
set_option maxRecDepth 20000 in
theorem ggX8_init_X3_init : GoodIn wsX8_init wsX3_init := goodIn_r _ [87, 88, 2, 3, 78, 89, 90, 170, 171] (by decide +kernel) (by decide +kernel)
set_option maxRecDepth 20000 in
theorem gX8_init_X3_init_n44 : GoodIn wsX8_init (wsX3_init) := ggX8_init_X3_init
set_option maxRecDepth 20000 in
theorem ggX8_init_X6_init : GoodIn wsX8_init wsX6_init := goodIn_r _ [93, 94, 2, 3, 95, 9, 10, 96, 97, 98, 99, 13, 14, 100, 46, 47, 48, 49, 50, 51, 52, 101, 54, 55, 56, 57, 58, 59, 60, 61, 62, 63, 64, 65, 66, 67, 68, 69, 70, 71, 72, 73, 74, 141, 142, 143, 144, 172, 173, 174, 175, 145, 146, 147, 148, 149, 150, 151, 152, 153, 154, 155, 156, 157, 158, 159, 160, 161, 162] (by decide +kernel) (by decide +kernel)
set_option maxRecDepth 20000 in
theorem gX8_init_X6_init : GoodIn wsX8_init (wsX6_init) := ggX8_init_X6_init
set_option maxRecDepth 20000 in
theorem ggX8_init_X7_init : GoodIn wsX8_init wsX7_init := goodIn_r _ [103, 104, 2, 3, 105, 106, 107, 108, 109, 110, 111, 176, 177, 178, 179, 180, 181, 182] (by decide +kernel) (by decide +kernel)
set_option maxRecDepth 20000 in
theorem gX8_init_X7_init_n60 : GoodIn wsX8_init (wsX7_init) := ggX8_init_X7_init
set_option maxRecDepth 20000 in
theorem ggX8_init_X4_init : GoodIn wsX8_init wsX4_init := goodIn_r _ [114, 115, 2, 3, 116, 117, 118, 119, 78, 120, 121, 122, 123, 124, 13, 14, 125, 54, 55, 56, 57, 58, 59, 60, 61, 62, 63, 64, 65, 66, 67, 68, 69, 70, 71, 72, 73, 74, 183, 184, 185, 186, 187, 188, 189, 145, 146, 147, 148, 149, 150, 151, 152, 153, 154, 155, 156, 157, 158, 159, 160, 161, 162] (by decide +kernel) (by decide +kernel)
set_option maxRecDepth 20000 in
theorem gX8_init_X4_init : GoodIn wsX8_init (wsX4_init) := ggX8_init_X4_init
theorem dX8_init_0 : decode cX8_init 0 = .ok (.aload_n 0, 1) := by decide +kernel
theorem dX8_init_1 : decode cX8_init 1 = .ok (.invokespecial 1, 3) := by decide +kernel
theorem dX8_init_4 : decode cX8_init 4 = .ok (.aload_n 0, 1) := by decide +kernel
theorem dX8_init_5 : decode cX8_init 5 = .ok (.new 7, 3) := by decide +kernel
theorem dX8_init_8 : decode cX8_init 8 = .ok (.dup, 1) := by decide +kernel
theorem dX8_init_9 : decode cX8_init 9 = .ok (.invokespecial 9, 3) := by decide +kernel
theorem dX8_init_12 : decode cX8_init 12 = .ok (.putfield 10, 3) := by decide +kernel
theorem dX8_init_15 : decode cX8_init 15 = .ok (.aload_n 0, 1) := by decide +kernel
theorem dX8_init_16 : decode cX8_init 16 = .ok (.new 16, 3) := by decide +kernel
theorem dX8_init_19 : decode cX8_init 19 = .ok (.dup, 1) := by decide +kernel
theorem dX8_init_20 : decode cX8_init 20 = .ok (.invokespecial 18, 3) := by decide +kernel
theorem dX8_init_23 : decode cX8_init 23 = .ok (.putfield 19, 3) := by decide +kernel
theorem dX8_init_26 : decode cX8_init 26 = .ok (.aload_n 0, 1) := by decide +kernel
theorem dX8_init_27 : decode cX8_init 27 = .ok (.new 23, 3) := by decide +kernel
theorem dX8_init_30 : decode cX8_init 30 = .ok (.dup, 1) := by decide +kernel
theorem dX8_init_31 : decode cX8_init 31 = .ok (.aload_n 0, 1) := by decide +kernel
theorem dX8_init_32 : decode cX8_init 32 = .ok (.getfield 10, 3) := by decide +kernel
theorem dX8_init_35 : decode cX8_init 35 = .ok (.aload_n 0, 1) := by decide +kernel
theorem dX8_init_36 : decode cX8_init 36 = .ok (.getfield 19, 3) := by decide +kernel
theorem dX8_init_39 : decode cX8_init 39 = .ok (.invokespecial 25, 3) := by decide +kernel
theorem dX8_init_42 : decode cX8_init 42 = .ok (.putfield 28, 3) := by decide +kernel
theorem dX8_init_45 : decode cX8_init 45 = .ok (.aload_n 0, 1) := by decide +kernel
theorem dX8_init_46 : decode cX8_init 46 = .ok (.new 23, 3) := by decide +kernel
theorem dX8_init_49 : decode cX8_init 49 = .ok (.dup, 1) := by decide +kernel
theorem dX8_init_50 : decode cX8_init 50 = .ok (.aload_n 0, 1) := by decide +kernel
theorem dX8_init_51 : decode cX8_init 51 = .ok (.getfield 10, 3) := by decide +kernel
theorem dX8_init_54 : decode cX8_init 54 = .ok (.aload_n 0, 1) := by decide +kernel
theorem dX8_init_55 : decode cX8_init 55 = .ok (.getfield 19, 3) := by decide +kernel
theorem dX8_init_58 : decode cX8_init 58 = .ok (.invokespecial 25, 3) := by decide +kernel
theorem dX8_init_61 : decode cX8_init 61 = .ok (.putfield 32, 3) := by decide +kernel
theorem dX8_init_64 : decode cX8_init 64 = .ok (.aload_n 0, 1) := by decide +kernel
theorem dX8_init_65 : decode cX8_init 65 = .ok (.new 35, 3) := by decide +kernel
theorem dX8_init_68 : decode cX8_init 68 = .ok (.dup, 1) := by decide +kernel
theorem dX8_init_69 : decode cX8_init 69 = .ok (.invokespecial 37, 3) := by decide +kernel
theorem dX8_init_72 : decode cX8_init 72 = .ok (.putfield 38, 3) := by decide +kernel
theorem dX8_init_75 : decode cX8_init 75 = .ok (.aload_n 0, 1) := by decide +kernel
theorem dX8_init_76 : decode cX8_init 76 = .ok (.new 42, 3) := by decide +kernel
theorem dX8_init_79 : decode cX8_init 79 = .ok (.dup, 1) := by decide +kernel
theorem dX8_init_80 : decode cX8_init 80 = .ok (.invokespecial 44, 3) := by decide +kernel
theorem dX8_init_83 : decode cX8_init 83 = .ok (.putfield 45, 3) := by decide +kernel
theorem dX8_init_86 : decode cX8_init 86 = .ok (.aload_n 0, 1) := by decide +kernel
theorem dX8_init_87 : decode cX8_init 87 = .ok (.new 49, 3) := by decide +kernel
theorem dX8_init_90 : decode cX8_init 90 = .ok (.dup, 1) := by decide +kernel
theorem dX8_init_91 : decode cX8_init 91 = .ok (.aload_n 0, 1) := by decide +kernel
theorem dX8_init_92 : decode cX8_init 92 = .ok (.getfield 10, 3) := by decide +kernel
theorem dX8_init_95 : decode cX8_init 95 = .ok (.invokespecial 51, 3) := by decide +kernel
theorem dX8_init_98 : decode cX8_init 98 = .ok (.putfield 54, 3) := by decide +kernel
theorem dX8_init_101 : decode cX8_init 101 = .ok (.aload_n 0, 1) := by decide +kernel
theorem dX8_init_102 : decode cX8_init 102 = .ok (.new 58, 3) := by decide +kernel
theorem dX8_init_105 : decode cX8_init 105 = .ok (.dup, 1) := by decide +kernel
theorem dX8_init_106 : decode cX8_init 106 = .ok (.invokespecial 60, 3) := by decide +kernel
theorem dX8_init_109 : decode cX8_init 109 = .ok (.putfield 61, 3) := by decide +kernel
theorem dX8_init_112 : decode cX8_init 112 = .ok (.aload_n 0, 1) := by decide +kernel
theorem dX8_init_113 : decode cX8_init 113 = .ok (.new 65, 3) := by decide +kernel
theorem dX8_init_116 : decode cX8_init 116 = .ok (.dup, 1) := by decide +kernel
theorem dX8_init_117 : decode cX8_init 117 = .ok (.aload_n 0, 1) := by decide +kernel
theorem dX8_init_118 : decode cX8_init 118 = .ok (.getfield 10, 3) := by decide +kernel
theorem dX8_init_121 : decode cX8_init 121 = .ok (.aload_n 0, 1) := by decide +kernel
theorem dX8_init_122 : decode cX8_init 122 = .ok (.getfield 19, 3) := by decide +kernel
theorem dX8_init_125 : decode cX8_init 125 = .ok (.invokespecial 67, 3) := by decide +kernel
theorem dX8_init_128 : decode cX8_init 128 = .ok (.putfield 68, 3) := by decide +kernel
theorem dX8_init_131 : decode cX8_init 131 = .ok (.aload_n 0, 1) := by decide +kernel
theorem dX8_init_132 : decode cX8_init 132 = .ok (.iconst 0, 1) := by decide +kernel
theorem dX8_init_133 : decode cX8_init 133 = .ok (.putfield 72, 3) := by decide +kernel
theorem dX8_init_136 : decode cX8_init 136 = .ok (.return_, 1) := by decide +kernel
set_option maxRecDepth 20000 in
theorem ggX8_anew_X8_within : GoodIn wsX8_anew wsX8_within := goodIn_r _ [9] (by decide +kernel) (by decide +kernel)
set_option maxRecDepth 20000 in
theorem gX8_anew_X8_within : GoodIn wsX8_anew (va_wsS RX8 76 yX8_within wsX8_within) := goodIn_app (goodIn_of _ (by decide +kernel)) ggX8_anew_X8_within
set_option maxRecDepth 20000 in
theorem ggX8_anew_X5_become : GoodIn wsX8_anew wsX5_become := goodIn_r _ [14, 15, 16, 17, 18, 19, 76, 77, 78, 79, 80] (by decide +kernel) (by decide +kernel)
set_option maxRecDepth 20000 in
theorem gX8_anew_X5_become : GoodIn wsX8_anew (wsV RX8 80 RX5 yX5_become wsX5_become) := goodIn_app (goodIn_of _ (by decide +kernel)) ggX8_anew_X5_become
set_option maxRecDepth 20000 in
theorem ggX8_anew_X0_clear : GoodIn wsX8_anew wsX0_clear := goodIn_r _ [24, 25, 26, 27, 28, 81, 82, 83, 84] (by decide +kernel) (by decide +kernel)
set_option maxRecDepth 20000 in
theorem gX8_anew_X0_clear : GoodIn wsX8_anew (wsV RX8 84 RX0 yX0_clear wsX0_clear) := goodIn_app (goodIn_of _ (by decide +kernel)) ggX8_anew_X0_clear
set_option maxRecDepth 20000 in
theorem ggX8_anew_X2_begin : GoodIn wsX8_anew wsX2_begin := goodIn_r _ [33, 34, 35, 36, 37, 38, 39, 40, 41, 42, 43, 44, 45, 46, 47, 48, 49, 85, 86, 87, 88, 89, 90, 91, 92, 93, 94, 95, 96, 97, 98, 99, 100, 101, 102] (by decide +kernel) (by decide +kernel)
set_option maxRecDepth 20000 in
theorem gX8_anew_X2_begin : GoodIn wsX8_anew (wsV RX8 87 RX2 yX2_begin wsX2_begin) := goodIn_app (goodIn_of _ (by decide +kernel)) ggX8_anew_X2_begin
set_option maxRecDepth 20000 in
theorem ggX8_anew_X1_clear : GoodIn wsX8_anew wsX1_clear := goodIn_r _ [54, 55, 56, 57, 58, 59, 60, 61, 62, 63, 64, 65, 103, 104, 105, 106, 107, 108, 109] (by decide +kernel) (by decide +kernel)
set_option maxRecDepth 20000 in
theorem gX8_anew_X1_clear : GoodIn wsX8_anew (wsV RX8 90 RX1 yX1_clear wsX1_clear) := goodIn_app (goodIn_of _ (by decide +kernel)) ggX8_anew_X1_clear
end
section
theorem dX8_anew_0 : decode cX8_anew 0 = .ok (.iload_n 1, 1) := by decide +kernel
theorem dX8_anew_1 : decode cX8_anew 1 = .ok (.iconst 0, 1) := by decide +kernel
theorem dX8_anew_2 : decode cX8_anew 2 = .ok (.iconst 5, 1) := by decide +kernel
theorem dX8_anew_3 : decode cX8_anew 3 = .ok (.invokestatic 76, 3) := by decide +kernel
theorem dX8_anew_6 : decode cX8_anew 6 = .ok (.ifCond .eq 48, 3) := by decide +kernel
theorem dX8_anew_9 : decode cX8_anew 9 = .ok (.iload_n 2, 1) := by decide +kernel
theorem dX8_anew_10 : decode cX8_anew 10 = .ok (.iconst 1, 1) := by decide +kernel
theorem dX8_anew_11 : decode cX8_anew 11 = .ok (.bipush 9, 2) := by decide +kernel
theorem dX8_anew_13 : decode cX8_anew 13 = .ok (.invokestatic 76, 3) := by decide +kernel
theorem dX8_anew_16 : decode cX8_anew 16 = .ok (.ifCond .eq 38, 3) := by decide +kernel
theorem dX8_anew_19 : decode cX8_anew 19 = .ok (.iload_n 3, 1) := by decide +kernel
theorem dX8_anew_20 : decode cX8_anew 20 = .ok (.iconst 1, 1) := by decide +kernel
theorem dX8_anew_21 : decode cX8_anew 21 = .ok (.bipush 30, 2) := by decide +kernel
theorem dX8_anew_23 : decode cX8_anew 23 = .ok (.invokestatic 76, 3) := by decide +kernel
theorem dX8_anew_26 : decode cX8_anew 26 = .ok (.ifCond .eq 28, 3) := by decide +kernel
theorem dX8_anew_29 : decode cX8_anew 29 = .ok (.iload 4, 2) := by decide +kernel
theorem dX8_anew_31 : decode cX8_anew 31 = .ok (.iconst 0, 1) := by decide +kernel
theorem dX8_anew_32 : decode cX8_anew 32 = .ok (.iconst 3, 1) := by decide +kernel
theorem dX8_anew_33 : decode cX8_anew 33 = .ok (.invokestatic 76, 3) := by decide +kernel
theorem dX8_anew_36 : decode cX8_anew 36 = .ok (.ifCond .eq 18, 3) := by decide +kernel
theorem dX8_anew_39 : decode cX8_anew 39 = .ok (.iload 5, 2) := by decide +kernel
theorem dX8_anew_41 : decode cX8_anew 41 = .ok (.iconst 2, 1) := by decide +kernel
theorem dX8_anew_42 : decode cX8_anew 42 = .ok (.bipush 9, 2) := by decide +kernel
theorem dX8_anew_44 : decode cX8_anew 44 = .ok (.invokestatic 76, 3) := by decide +kernel
theorem dX8_anew_47 : decode cX8_anew 47 = .ok (.ifCond .eq 7, 3) := by decide +kernel
theorem dX8_anew_50 : decode cX8_anew 50 = .ok (.iconst 1, 1) := by decide +kernel
theorem dX8_anew_51 : decode cX8_anew 51 = .ok (.goto 4, 3) := by decide +kernel
theorem dX8_anew_54 : decode cX8_anew 54 = .ok (.iconst 0, 1) := by decide +kernel
theorem dX8_anew_55 : decode cX8_anew 55 = .ok (.istore 6, 2) := by decide +kernel
theorem dX8_anew_57 : decode cX8_anew 57 = .ok (.iload 6, 2) := by decide +kernel
theorem dX8_anew_59 : decode cX8_anew 59 = .ok (.ifCond .ne 6, 3) := by decide +kernel
theorem dX8_anew_62 : decode cX8_anew 62 = .ok (.bipush (-2), 2) := by decide +kernel
theorem dX8_anew_64 : decode cX8_anew 64 = .ok (.ireturn, 1) := by decide +kernel
theorem dX8_anew_65 : decode cX8_anew 65 = .ok (.aload_n 0, 1) := by decide +kernel
theorem dX8_anew_66 : decode cX8_anew 66 = .ok (.getfield 10, 3) := by decide +kernel
theorem dX8_anew_69 : decode cX8_anew 69 = .ok (.iload_n 1, 1) := by decide +kernel
theorem dX8_anew_70 : decode cX8_anew 70 = .ok (.iload_n 2, 1) := by decide +kernel
theorem dX8_anew_71 : decode cX8_anew 71 = .ok (.iload_n 3, 1) := by decide +kernel
theorem dX8_anew_72 : decode cX8_anew 72 = .ok (.iload 4, 2) := by decide +kernel
theorem dX8_anew_74 : decode cX8_anew 74 = .ok (.iload 5, 2) := by decide +kernel
theorem dX8_anew_76 : decode cX8_anew 76 = .ok (.invokevirtual 80, 3) := by decide +kernel
theorem dX8_anew_79 : decode cX8_anew 79 = .ok (.aload_n 0, 1) := by decide +kernel
theorem dX8_anew_80 : decode cX8_anew 80 = .ok (.getfield 19, 3) := by decide +kernel
theorem dX8_anew_83 : decode cX8_anew 83 = .ok (.invokevirtual 84, 3) := by decide +kernel
theorem dX8_anew_86 : decode cX8_anew 86 = .ok (.aload_n 0, 1) := by decide +kernel
theorem dX8_anew_87 : decode cX8_anew 87 = .ok (.getfield 28, 3) := by decide +kernel
theorem dX8_anew_90 : decode cX8_anew 90 = .ok (.invokevirtual 87, 3) := by decide +kernel
theorem dX8_anew_93 : decode cX8_anew 93 = .ok (.aload_n 0, 1) := by decide +kernel
theorem dX8_anew_94 : decode cX8_anew 94 = .ok (.getfield 38, 3) := by decide +kernel
theorem dX8_anew_97 : decode cX8_anew 97 = .ok (.invokevirtual 90, 3) := by decide +kernel
theorem dX8_anew_100 : decode cX8_anew 100 = .ok (.aload_n 0, 1) := by decide +kernel
theorem dX8_anew_101 : decode cX8_anew 101 = .ok (.iconst 0, 1) := by decide +kernel
theorem dX8_anew_102 : decode cX8_anew 102 = .ok (.putfield 72, 3) := by decide +kernel
theorem dX8_anew_105 : decode cX8_anew 105 = .ok (.iconst 1, 1) := by decide +kernel
theorem dX8_anew_106 : decode cX8_anew 106 = .ok (.ireturn, 1) := by decide +kernel
set_option maxRecDepth 20000 in
theorem ggX8_stick_X8_within : GoodIn wsX8_stick wsX8_within := goodIn_r _ [5] (by decide +kernel) (by decide +kernel)
set_option maxRecDepth 20000 in
theorem gX8_stick_X8_within : GoodIn wsX8_stick (va_wsS RX8 76 yX8_within wsX8_within) := goodIn_app (goodIn_of _ (by decide +kernel)) ggX8_stick_X8_within
set_option maxRecDepth 20000 in
theorem ggX8_stick_X0_inputStuckAt : GoodIn wsX8_stick wsX0_inputStuckAt := goodIn_r _ [10, 11, 12, 13, 4, 14, 29, 30, 31, 32] (by decide +kernel) (by decide +kernel)
set_option maxRecDepth 20000 in
theorem gX8_stick_X0_inputStuckAt : GoodIn wsX8_stick (wsV RX8 91 RX0 yX0_inputStuckAt wsX0_inputStuckAt) := goodIn_app (goodIn_of _ (by decide +kernel)) ggX8_stick_X0_inputStuckAt
set_option maxRecDepth 20000 in
theorem ggX8_stick_X0_setInput : GoodIn wsX8_stick wsX0_setInput := goodIn_r _ [18, 12, 11, 29, 30, 31, 32] (by decide +kernel) (by decide +kernel)
set_option maxRecDepth 20000 in
theorem gX8_stick_X0_setInput : GoodIn wsX8_stick (wsV RX8 95 RX0 yX0_setInput wsX0_setInput) := goodIn_app (goodIn_of _ (by decide +kernel)) ggX8_stick_X0_setInput
theorem dX8_stick_0 : decode cX8_stick 0 = .ok (.iload_n 1, 1) := by decide +kernel
theorem dX8_stick_1 : decode cX8_stick 1 = .ok (.iconst 0, 1) := by decide +kernel
theorem dX8_stick_2 : decode cX8_stick 2 = .ok (.bipush 8, 2) := by decide +kernel
theorem dX8_stick_4 : decode cX8_stick 4 = .ok (.invokestatic 76, 3) := by decide +kernel
theorem dX8_stick_7 : decode cX8_stick 7 = .ok (.ifCond .ne 5, 3) := by decide +kernel
theorem dX8_stick_10 : decode cX8_stick 10 = .ok (.iconst (-1), 1) := by decide +kernel
theorem dX8_stick_11 : decode cX8_stick 11 = .ok (.ireturn, 1) := by decide +kernel
theorem dX8_stick_12 : decode cX8_stick 12 = .ok (.iload_n 2, 1) := by decide +kernel
theorem dX8_stick_13 : decode cX8_stick 13 = .ok (.iconst 0, 1) := by decide +kernel
theorem dX8_stick_14 : decode cX8_stick 14 = .ok (.iconst 2, 1) := by decide +kernel
theorem dX8_stick_15 : decode cX8_stick 15 = .ok (.invokestatic 76, 3) := by decide +kernel
theorem dX8_stick_18 : decode cX8_stick 18 = .ok (.ifCond .ne 6, 3) := by decide +kernel
theorem dX8_stick_21 : decode cX8_stick 21 = .ok (.bipush (-2), 2) := by decide +kernel
theorem dX8_stick_23 : decode cX8_stick 23 = .ok (.ireturn, 1) := by decide +kernel
theorem dX8_stick_24 : decode cX8_stick 24 = .ok (.aload_n 0, 1) := by decide +kernel
theorem dX8_stick_25 : decode cX8_stick 25 = .ok (.getfield 19, 3) := by decide +kernel
theorem dX8_stick_28 : decode cX8_stick 28 = .ok (.iload_n 1, 1) := by decide +kernel
theorem dX8_stick_29 : decode cX8_stick 29 = .ok (.invokevirtual 91, 3) := by decide +kernel
theorem dX8_stick_32 : decode cX8_stick 32 = .ok (.istore_n 3, 1) := by decide +kernel
theorem dX8_stick_33 : decode cX8_stick 33 = .ok (.aload_n 0, 1) := by decide +kernel
theorem dX8_stick_34 : decode cX8_stick 34 = .ok (.getfield 19, 3) := by decide +kernel
theorem dX8_stick_37 : decode cX8_stick 37 = .ok (.iload_n 1, 1) := by decide +kernel
theorem dX8_stick_38 : decode cX8_stick 38 = .ok (.iload_n 2, 1) := by decide +kernel
theorem dX8_stick_39 : decode cX8_stick 39 = .ok (.invokevirtual 95, 3) := by decide +kernel
theorem dX8_stick_42 : decode cX8_stick 42 = .ok (.iload_n 3, 1) := by decide +kernel
theorem dX8_stick_43 : decode cX8_stick 43 = .ok (.ireturn, 1) := by decide +kernel
set_option maxRecDepth 20000 in
theorem ggX8_valve_X8_within : GoodIn wsX8_valve wsX8_within := goodIn_r _ [5] (by decide +kernel) (by decide +kernel)
set_option maxRecDepth 20000 in
theorem gX8_valve_X8_within : GoodIn wsX8_valve (va_wsS RX8 76 yX8_within wsX8_within) := goodIn_app (goodIn_of _ (by decide +kernel)) ggX8_valve_X8_within
set_option maxRecDepth 20000 in
theorem ggX8_valve_X0_valveStuckAt : GoodIn wsX8_valve wsX0_valveStuckAt := goodIn_r _ [10, 11, 12, 27, 28, 29, 30] (by decide +kernel) (by decide +kernel)
set_option maxRecDepth 20000 in
theorem gX8_valve_X0_valveStuckAt : GoodIn wsX8_valve (wsV RX8 99 RX0 yX0_valveStuckAt wsX0_valveStuckAt) := goodIn_app (goodIn_of _ (by decide +kernel)) ggX8_valve_X0_valveStuckAt
set_option maxRecDepth 20000 in
theorem ggX8_valve_X0_setValve : GoodIn wsX8_valve wsX0_setValve := goodIn_r _ [16, 11, 12, 27, 28, 29, 30] (by decide +kernel) (by decide +kernel)
set_option maxRecDepth 20000 in
theorem gX8_valve_X0_setValve : GoodIn wsX8_valve (wsV RX8 102 RX0 yX0_setValve wsX0_setValve) := goodIn_app (goodIn_of _ (by decide +kernel)) ggX8_valve_X0_setValve
theorem dX8_valve_0 : decode cX8_valve 0 = .ok (.iload_n 1, 1) := by decide +kernel
theorem dX8_valve_1 : decode cX8_valve 1 = .ok (.iconst 0, 1) := by decide +kernel
theorem dX8_valve_2 : decode cX8_valve 2 = .ok (.iconst 1, 1) := by decide +kernel
theorem dX8_valve_3 : decode cX8_valve 3 = .ok (.invokestatic 76, 3) := by decide +kernel
theorem dX8_valve_6 : decode cX8_valve 6 = .ok (.ifCond .ne 5, 3) := by decide +kernel
theorem dX8_valve_9 : decode cX8_valve 9 = .ok (.iconst (-1), 1) := by decide +kernel
theorem dX8_valve_10 : decode cX8_valve 10 = .ok (.ireturn, 1) := by decide +kernel
theorem dX8_valve_11 : decode cX8_valve 11 = .ok (.iload_n 2, 1) := by decide +kernel
theorem dX8_valve_12 : decode cX8_valve 12 = .ok (.iconst 0, 1) := by decide +kernel
theorem dX8_valve_13 : decode cX8_valve 13 = .ok (.iconst 2, 1) := by decide +kernel
theorem dX8_valve_14 : decode cX8_valve 14 = .ok (.invokestatic 76, 3) := by decide +kernel
theorem dX8_valve_17 : decode cX8_valve 17 = .ok (.ifCond .ne 6, 3) := by decide +kernel
theorem dX8_valve_20 : decode cX8_valve 20 = .ok (.bipush (-2), 2) := by decide +kernel
theorem dX8_valve_22 : decode cX8_valve 22 = .ok (.ireturn, 1) := by decide +kernel
theorem dX8_valve_23 : decode cX8_valve 23 = .ok (.aload_n 0, 1) := by decide +kernel
theorem dX8_valve_24 : decode cX8_valve 24 = .ok (.getfield 19, 3) := by decide +kernel
theorem dX8_valve_27 : decode cX8_valve 27 = .ok (.iload_n 1, 1) := by decide +kernel
theorem dX8_valve_28 : decode cX8_valve 28 = .ok (.invokevirtual 99, 3) := by decide +kernel
theorem dX8_valve_31 : decode cX8_valve 31 = .ok (.istore_n 3, 1) := by decide +kernel
theorem dX8_valve_32 : decode cX8_valve 32 = .ok (.aload_n 0, 1) := by decide +kernel
theorem dX8_valve_33 : decode cX8_valve 33 = .ok (.getfield 19, 3) := by decide +kernel
theorem dX8_valve_36 : decode cX8_valve 36 = .ok (.iload_n 1, 1) := by decide +kernel
theorem dX8_valve_37 : decode cX8_valve 37 = .ok (.iload_n 2, 1) := by decide +kernel
theorem dX8_valve_38 : decode cX8_valve 38 = .ok (.invokevirtual 102, 3) := by decide +kernel
theorem dX8_valve_41 : decode cX8_valve 41 = .ok (.iload_n 3, 1) := by decide +kernel
theorem dX8_valve_42 : decode cX8_valve 42 = .ok (.ireturn, 1) := by decide +kernel
set_option maxRecDepth 20000 in
theorem ggX8_tick_X8_isSet : GoodIn wsX8_tick wsX8_isSet := goodIn_r _ [6, 7, 8, 5, 9] (by decide +kernel) (by decide +kernel)
set_option maxRecDepth 20000 in
theorem gX8_tick_X8_isSet : GoodIn wsX8_tick (va_wsS RX8 105 yX8_isSet wsX8_isSet) := goodIn_app (goodIn_of _ (by decide +kernel)) ggX8_tick_X8_isSet
set_option maxRecDepth 20000 in
theorem ggX8_tick_X8_advanceNoted : GoodIn wsX8_tick wsX8_advanceNoted := goodIn_r _ [13, 1, 2, 14, 15, 16, 17, 18, 19, 20, 21, 22, 23, 24, 25, 26, 27, 28, 29, 30, 31, 32, 33, 34, 35, 36, 37, 38, 39, 40, 41, 5, 42, 43, 44, 45, 46, 47, 48, 49, 50, 51, 52, 53, 54, 55, 56, 57, 58, 59, 60, 61, 62, 63, 64, 65, 66, 67, 68, 69, 70, 71, 72, 73, 74, 75, 76, 77, 78, 79, 80, 81, 82, 83, 84, 85, 86, 87, 88, 89, 90, 91, 92, 93, 94, 95, 96, 97, 98, 99, 100, 101, 102, 103, 104, 105, 106, 107, 108, 109, 110, 111, 112, 113, 114, 115, 116, 117, 118, 119, 120, 121, 122, 8, 9, 123, 124, 125, 126, 127, 128, 129, 130, 131, 132, 133, 134, 135, 136, 137, 138, 139, 140, 141, 142, 143, 144, 145, 146, 147, 148, 149, 150, 151, 152, 153, 154, 155, 156, 157, 158, 159, 160, 161, 162, 163, 164, 165, 166, 167, 168, 169, 170, 171, 172, 173, 174, 175, 176, 177, 178, 179, 180, 181, 182, 183] (by decide +kernel) (by decide +kernel)
set_option maxRecDepth 20000 in
theorem gX8_tick_X8_advanceNoted : GoodIn wsX8_tick (wsV RX8 109 RX8 yX8_advanceNoted wsX8_advanceNoted) := goodIn_app (goodIn_of _ (by decide +kernel)) ggX8_tick_X8_advanceNoted
theorem dX8_tick_0 : decode cX8_tick 0 = .ok (.iload_n 1, 1) := by decide +kernel
theorem dX8_tick_1 : decode cX8_tick 1 = .ok (.invokestatic 105, 3) := by decide +kernel
theorem dX8_tick_4 : decode cX8_tick 4 = .ok (.ifCond .ne 6, 3) := by decide +kernel
theorem dX8_tick_7 : decode cX8_tick 7 = .ok (.bipush (-2), 2) := by decide +kernel
theorem dX8_tick_9 : decode cX8_tick 9 = .ok (.ireturn, 1) := by decide +kernel
theorem dX8_tick_10 : decode cX8_tick 10 = .ok (.aload_n 0, 1) := by decide +kernel
theorem dX8_tick_11 : decode cX8_tick 11 = .ok (.iload_n 1, 1) := by decide +kernel
theorem dX8_tick_12 : decode cX8_tick 12 = .ok (.invokevirtual 109, 3) := by decide +kernel
theorem dX8_tick_15 : decode cX8_tick 15 = .ok (.aload_n 0, 1) := by decide +kernel
theorem dX8_tick_16 : decode cX8_tick 16 = .ok (.getfield 28, 3) := by decide +kernel
theorem dX8_tick_19 : decode cX8_tick 19 = .ok (.getfield 113, 3) := by decide +kernel
theorem dX8_tick_22 : decode cX8_tick 22 = .ok (.ireturn, 1) := by decide +kernel
set_option maxRecDepth 20000 in
theorem ggX8_ticks_X8_isSet : GoodIn wsX8_ticks wsX8_isSet := goodIn_r _ [6, 7, 8, 5, 9] (by decide +kernel) (by decide +kernel)
set_option maxRecDepth 20000 in
theorem gX8_ticks_X8_isSet : GoodIn wsX8_ticks (va_wsS RX8 105 yX8_isSet wsX8_isSet) := goodIn_app (goodIn_of _ (by decide +kernel)) ggX8_ticks_X8_isSet
set_option maxRecDepth 20000 in
theorem ggX8_ticks_X8_within : GoodIn wsX8_ticks wsX8_within := goodIn_r _ [9] (by decide +kernel) (by decide +kernel)
set_option maxRecDepth 20000 in
theorem gX8_ticks_X8_within : GoodIn wsX8_ticks (va_wsS RX8 76 yX8_within wsX8_within) := goodIn_app (goodIn_of _ (by decide +kernel)) ggX8_ticks_X8_within
set_option maxRecDepth 20000 in
theorem ggX8_ticks_X8_advanceNoted : GoodIn wsX8_ticks wsX8_advanceNoted := goodIn_r _ [13, 1, 2, 14, 15, 16, 17, 18, 19, 20, 21, 22, 23, 24, 25, 26, 27, 28, 29, 30, 31, 32, 33, 34, 35, 36, 37, 38, 39, 40, 41, 5, 42, 43, 44, 45, 46, 47, 48, 49, 50, 51, 52, 53, 54, 55, 56, 57, 58, 59, 60, 61, 62, 63, 64, 65, 66, 67, 68, 69, 70, 71, 72, 73, 74, 75, 76, 77, 78, 79, 80, 81, 82, 83, 84, 85, 86, 87, 88, 89, 90, 91, 92, 93, 94, 95, 96, 97, 98, 99, 100, 101, 102, 103, 104, 105, 106, 107, 108, 109, 110, 111, 112, 113, 114, 115, 116, 117, 118, 119, 120, 121, 122, 8, 9, 123, 124, 125, 126, 127, 128, 129, 130, 131, 132, 133, 134, 135, 136, 137, 138, 139, 140, 141, 142, 143, 144, 145, 146, 147, 148, 149, 150, 151, 152, 153, 154, 155, 156, 157, 158, 159, 160, 161, 162, 163, 164, 165, 166, 167, 168, 169, 170, 171, 172, 173, 174, 175, 176, 177, 178, 179, 180, 181, 182, 183] (by decide +kernel) (by decide +kernel)
set_option maxRecDepth 20000 in
theorem gX8_ticks_X8_advanceNoted : GoodIn wsX8_ticks (wsV RX8 109 RX8 yX8_advanceNoted wsX8_advanceNoted) := goodIn_app (goodIn_of _ (by decide +kernel)) ggX8_ticks_X8_advanceNoted
theorem dX8_ticks_0 : decode cX8_ticks 0 = .ok (.iload_n 1, 1) := by decide +kernel
theorem dX8_ticks_1 : decode cX8_ticks 1 = .ok (.invokestatic 105, 3) := by decide +kernel
theorem dX8_ticks_4 : decode cX8_ticks 4 = .ok (.ifCond .eq 13, 3) := by decide +kernel
theorem dX8_ticks_7 : decode cX8_ticks 7 = .ok (.iload_n 2, 1) := by decide +kernel
theorem dX8_ticks_8 : decode cX8_ticks 8 = .ok (.iconst 0, 1) := by decide +kernel
theorem dX8_ticks_9 : decode cX8_ticks 9 = .ok (.bipush 60, 2) := by decide +kernel
theorem dX8_ticks_11 : decode cX8_ticks 11 = .ok (.invokestatic 76, 3) := by decide +kernel
theorem dX8_ticks_14 : decode cX8_ticks 14 = .ok (.ifCond .ne 6, 3) := by decide +kernel
theorem dX8_ticks_17 : decode cX8_ticks 17 = .ok (.bipush (-2), 2) := by decide +kernel
theorem dX8_ticks_19 : decode cX8_ticks 19 = .ok (.ireturn, 1) := by decide +kernel
theorem dX8_ticks_20 : decode cX8_ticks 20 = .ok (.iconst 0, 1) := by decide +kernel
theorem dX8_ticks_21 : decode cX8_ticks 21 = .ok (.istore_n 3, 1) := by decide +kernel
theorem dX8_ticks_22 : decode cX8_ticks 22 = .ok (.iload_n 3, 1) := by decide +kernel
theorem dX8_ticks_23 : decode cX8_ticks 23 = .ok (.iload_n 2, 1) := by decide +kernel
theorem dX8_ticks_24 : decode cX8_ticks 24 = .ok (.if_icmp .ge 14, 3) := by decide +kernel
theorem dX8_ticks_27 : decode cX8_ticks 27 = .ok (.aload_n 0, 1) := by decide +kernel
theorem dX8_ticks_28 : decode cX8_ticks 28 = .ok (.iload_n 1, 1) := by decide +kernel
theorem dX8_ticks_29 : decode cX8_ticks 29 = .ok (.invokevirtual 109, 3) := by decide +kernel
theorem dX8_ticks_32 : decode cX8_ticks 32 = .ok (.iinc 3 1, 3) := by decide +kernel
theorem dX8_ticks_35 : decode cX8_ticks 35 = .ok (.goto (-13), 3) := by decide +kernel
theorem dX8_ticks_38 : decode cX8_ticks 38 = .ok (.aload_n 0, 1) := by decide +kernel
theorem dX8_ticks_39 : decode cX8_ticks 39 = .ok (.getfield 28, 3) := by decide +kernel
theorem dX8_ticks_42 : decode cX8_ticks 42 = .ok (.getfield 113, 3) := by decide +kernel
theorem dX8_ticks_45 : decode cX8_ticks 45 = .ok (.ireturn, 1) := by decide +kernel
set_option maxRecDepth 20000 in
theorem ggX8_now_X2_part : GoodIn wsX8_now wsX2_part := goodIn_r _ [6, 7, 8, 9, 10, 11, 12, 13, 14, 15, 16, 17, 18, 19, 20, 31, 32, 33, 34, 35, 36, 37, 38, 39, 40, 41, 42, 43, 44, 45, 46, 47, 48] (by decide +kernel) (by decide +kernel)
set_option maxRecDepth 20000 in
theorem gX8_now_X2_part : GoodIn wsX8_now (wsV RX8 117 RX2 yX2_part wsX2_part) := goodIn_app (goodIn_of _ (by decide +kernel)) ggX8_now_X2_part
theorem dX8_now_0 : decode cX8_now 0 = .ok (.aload_n 0, 1) := by decide +kernel
theorem dX8_now_1 : decode cX8_now 1 = .ok (.getfield 28, 3) := by decide +kernel
theorem dX8_now_4 : decode cX8_now 4 = .ok (.iload_n 1, 1) := by decide +kernel
theorem dX8_now_5 : decode cX8_now 5 = .ok (.invokevirtual 117, 3) := by decide +kernel
theorem dX8_now_8 : decode cX8_now 8 = .ok (.ireturn, 1) := by decide +kernel
set_option maxRecDepth 20000 in
theorem ggX8_setting_X5_part : GoodIn wsX8_setting wsX5_part := goodIn_r _ [6, 7, 8, 9, 10, 11, 22, 23, 24, 25, 26] (by decide +kernel) (by decide +kernel)
set_option maxRecDepth 20000 in
theorem gX8_setting_X5_part : GoodIn wsX8_setting (wsV RX8 120 RX5 yX5_part wsX5_part) := goodIn_app (goodIn_of _ (by decide +kernel)) ggX8_setting_X5_part
theorem dX8_setting_0 : decode cX8_setting 0 = .ok (.aload_n 0, 1) := by decide +kernel
theorem dX8_setting_1 : decode cX8_setting 1 = .ok (.getfield 10, 3) := by decide +kernel
theorem dX8_setting_4 : decode cX8_setting 4 = .ok (.iload_n 1, 1) := by decide +kernel
theorem dX8_setting_5 : decode cX8_setting 5 = .ok (.invokevirtual 120, 3) := by decide +kernel
theorem dX8_setting_8 : decode cX8_setting 8 = .ok (.ireturn, 1) := by decide +kernel
set_option maxRecDepth 20000 in
theorem ggX8_leadsTo_X8_within : GoodIn wsX8_leadsTo wsX8_within := goodIn_r _ [7] (by decide +kernel) (by decide +kernel)
set_option maxRecDepth 20000 in
theorem gX8_leadsTo_X8_within : GoodIn wsX8_leadsTo (va_wsS RX8 76 yX8_within wsX8_within) := goodIn_app (goodIn_of _ (by decide +kernel)) ggX8_leadsTo_X8_within
set_option maxRecDepth 20000 in
theorem ggX8_leadsTo_X2_copyFrom : GoodIn wsX8_leadsTo wsX2_copyFrom := goodIn_r _ [12, 13, 14, 15, 16, 17, 18, 19, 20, 21, 22, 23, 24, 25, 26, 27, 28, 121, 122, 123, 124, 125, 126, 127, 128, 129, 130, 131, 132, 133, 134, 135, 136, 137, 138] (by decide +kernel) (by decide +kernel)
set_option maxRecDepth 20000 in
theorem gX8_leadsTo_X2_copyFrom : GoodIn wsX8_leadsTo (wsV RX8 121 RX2 yX2_copyFrom wsX2_copyFrom) := goodIn_app (goodIn_of _ (by decide +kernel)) ggX8_leadsTo_X2_copyFrom
set_option maxRecDepth 20000 in
theorem ggX8_leadsTo_X2_advance : GoodIn wsX8_leadsTo wsX2_advance := goodIn_r _ [32, 33, 18, 19, 20, 14, 22, 21, 13, 25, 34, 35, 36, 37, 38, 39, 40, 41, 42, 11, 43, 44, 6, 45, 46, 47, 48, 49, 50, 51, 52, 53, 54, 55, 56, 57, 58, 59, 16, 17, 60, 61, 62, 63, 64, 65, 66, 67, 68, 69, 70, 71, 72, 73, 15, 74, 75, 76, 77, 78, 79, 80, 81, 82, 83, 84, 85, 86, 87, 88, 89, 90, 91, 23, 26, 92, 93, 94, 95, 96, 97, 98, 99, 100, 101, 102, 24, 27, 103, 104, 105, 106, 107, 108, 109, 110, 28, 121, 122, 123, 124, 125, 126, 127, 128, 129, 130, 131, 132, 133, 134, 135, 136, 137, 138, 139, 140, 141, 142, 143, 144, 145, 146, 147] (by decide +kernel) (by decide +kernel)
set_option maxRecDepth 20000 in
theorem gX8_leadsTo_X2_advance : GoodIn wsX8_leadsTo (wsV RX8 125 RX2 yX2_advance wsX2_advance) := goodIn_app (goodIn_of _ (by decide +kernel)) ggX8_leadsTo_X2_advance
theorem dX8_leadsTo_0 : decode cX8_leadsTo 0 = .ok (.iload_n 1, 1) := by decide +kernel
theorem dX8_leadsTo_1 : decode cX8_leadsTo 1 = .ok (.iconst 0, 1) := by decide +kernel
theorem dX8_leadsTo_2 : decode cX8_leadsTo 2 = .ok (.iconst 4, 1) := by decide +kernel
theorem dX8_leadsTo_3 : decode cX8_leadsTo 3 = .ok (.invokestatic 76, 3) := by decide +kernel
theorem dX8_leadsTo_6 : decode cX8_leadsTo 6 = .ok (.ifCond .ne 6, 3) := by decide +kernel
theorem dX8_leadsTo_9 : decode cX8_leadsTo 9 = .ok (.bipush (-2), 2) := by decide +kernel
theorem dX8_leadsTo_11 : decode cX8_leadsTo 11 = .ok (.ireturn, 1) := by decide +kernel
theorem dX8_leadsTo_12 : decode cX8_leadsTo 12 = .ok (.iconst 0, 1) := by decide +kernel
theorem dX8_leadsTo_13 : decode cX8_leadsTo 13 = .ok (.istore_n 2, 1) := by decide +kernel
theorem dX8_leadsTo_14 : decode cX8_leadsTo 14 = .ok (.iload_n 2, 1) := by decide +kernel
theorem dX8_leadsTo_15 : decode cX8_leadsTo 15 = .ok (.sipush 511, 3) := by decide +kernel
theorem dX8_leadsTo_18 : decode cX8_leadsTo 18 = .ok (.if_icmp .gt 41, 3) := by decide +kernel
theorem dX8_leadsTo_21 : decode cX8_leadsTo 21 = .ok (.aload_n 0, 1) := by decide +kernel
theorem dX8_leadsTo_22 : decode cX8_leadsTo 22 = .ok (.getfield 32, 3) := by decide +kernel
theorem dX8_leadsTo_25 : decode cX8_leadsTo 25 = .ok (.aload_n 0, 1) := by decide +kernel
theorem dX8_leadsTo_26 : decode cX8_leadsTo 26 = .ok (.getfield 28, 3) := by decide +kernel
theorem dX8_leadsTo_29 : decode cX8_leadsTo 29 = .ok (.invokevirtual 121, 3) := by decide +kernel
theorem dX8_leadsTo_32 : decode cX8_leadsTo 32 = .ok (.aload_n 0, 1) := by decide +kernel
theorem dX8_leadsTo_33 : decode cX8_leadsTo 33 = .ok (.getfield 32, 3) := by decide +kernel
theorem dX8_leadsTo_36 : decode cX8_leadsTo 36 = .ok (.iload_n 2, 1) := by decide +kernel
theorem dX8_leadsTo_37 : decode cX8_leadsTo 37 = .ok (.invokevirtual 125, 3) := by decide +kernel
theorem dX8_leadsTo_40 : decode cX8_leadsTo 40 = .ok (.aload_n 0, 1) := by decide +kernel
theorem dX8_leadsTo_41 : decode cX8_leadsTo 41 = .ok (.getfield 32, 3) := by decide +kernel
theorem dX8_leadsTo_44 : decode cX8_leadsTo 44 = .ok (.getfield 113, 3) := by decide +kernel
theorem dX8_leadsTo_47 : decode cX8_leadsTo 47 = .ok (.iload_n 1, 1) := by decide +kernel
theorem dX8_leadsTo_48 : decode cX8_leadsTo 48 = .ok (.if_icmp .ne 5, 3) := by decide +kernel
theorem dX8_leadsTo_51 : decode cX8_leadsTo 51 = .ok (.iload_n 2, 1) := by decide +kernel
theorem dX8_leadsTo_52 : decode cX8_leadsTo 52 = .ok (.ireturn, 1) := by decide +kernel
theorem dX8_leadsTo_53 : decode cX8_leadsTo 53 = .ok (.iinc 2 1, 3) := by decide +kernel
theorem dX8_leadsTo_56 : decode cX8_leadsTo 56 = .ok (.goto (-42), 3) := by decide +kernel
theorem dX8_leadsTo_59 : decode cX8_leadsTo 59 = .ok (.bipush (-9), 2) := by decide +kernel
theorem dX8_leadsTo_61 : decode cX8_leadsTo 61 = .ok (.ireturn, 1) := by decide +kernel
set_option maxRecDepth 20000 in
theorem ggX8_locked_X8_within : GoodIn wsX8_locked wsX8_within := goodIn_r _ [5] (by decide +kernel) (by decide +kernel)
set_option maxRecDepth 20000 in
theorem gX8_locked_X8_within : GoodIn wsX8_locked (va_wsS RX8 76 yX8_within wsX8_within) := goodIn_app (goodIn_of _ (by decide +kernel)) ggX8_locked_X8_within
set_option maxRecDepth 20000 in
theorem ggX8_locked_X1_locksBy : GoodIn wsX8_locked wsX1_locksBy := goodIn_r _ [10, 11, 12, 13, 9, 14, 15, 3, 4, 5, 27, 28, 29, 30, 31, 32, 33] (by decide +kernel) (by decide +kernel)
set_option maxRecDepth 20000 in
theorem gX8_locked_X1_locksBy : GoodIn wsX8_locked (wsV RX8 128 RX1 yX1_locksBy wsX1_locksBy) := goodIn_app (goodIn_of _ (by decide +kernel)) ggX8_locked_X1_locksBy
set_option maxRecDepth 20000 in
theorem ggX8_locked_X1_locksAt : GoodIn wsX8_locked wsX1_locksAt := goodIn_r _ [14, 15, 3, 4, 5, 27, 28, 29, 30, 31, 32, 33] (by decide +kernel) (by decide +kernel)
set_option maxRecDepth 20000 in
theorem gX8_locked_X1_locksAt : GoodIn wsX8_locked (wsV RX8 131 RX1 yX1_locksAt wsX1_locksAt) := goodIn_app (goodIn_of _ (by decide +kernel)) ggX8_locked_X1_locksAt
theorem dX8_locked_0 : decode cX8_locked 0 = .ok (.iload_n 1, 1) := by decide +kernel
theorem dX8_locked_1 : decode cX8_locked 1 = .ok (.iconst 1, 1) := by decide +kernel
theorem dX8_locked_2 : decode cX8_locked 2 = .ok (.iconst 5, 1) := by decide +kernel
theorem dX8_locked_3 : decode cX8_locked 3 = .ok (.invokestatic 76, 3) := by decide +kernel
theorem dX8_locked_6 : decode cX8_locked 6 = .ok (.ifCond .ne 5, 3) := by decide +kernel
theorem dX8_locked_9 : decode cX8_locked 9 = .ok (.iconst (-1), 1) := by decide +kernel
theorem dX8_locked_10 : decode cX8_locked 10 = .ok (.ireturn, 1) := by decide +kernel
theorem dX8_locked_11 : decode cX8_locked 11 = .ok (.iload_n 2, 1) := by decide +kernel
theorem dX8_locked_12 : decode cX8_locked 12 = .ok (.bipush (-9), 2) := by decide +kernel
theorem dX8_locked_14 : decode cX8_locked 14 = .ok (.if_icmp .ne 12, 3) := by decide +kernel
theorem dX8_locked_17 : decode cX8_locked 17 = .ok (.aload_n 0, 1) := by decide +kernel
theorem dX8_locked_18 : decode cX8_locked 18 = .ok (.getfield 38, 3) := by decide +kernel
theorem dX8_locked_21 : decode cX8_locked 21 = .ok (.iload_n 1, 1) := by decide +kernel
theorem dX8_locked_22 : decode cX8_locked 22 = .ok (.invokevirtual 128, 3) := by decide +kernel
theorem dX8_locked_25 : decode cX8_locked 25 = .ok (.ireturn, 1) := by decide +kernel
theorem dX8_locked_26 : decode cX8_locked 26 = .ok (.iload_n 2, 1) := by decide +kernel
theorem dX8_locked_27 : decode cX8_locked 27 = .ok (.iconst 0, 1) := by decide +kernel
theorem dX8_locked_28 : decode cX8_locked 28 = .ok (.bipush 17, 2) := by decide +kernel
theorem dX8_locked_30 : decode cX8_locked 30 = .ok (.invokestatic 76, 3) := by decide +kernel
theorem dX8_locked_33 : decode cX8_locked 33 = .ok (.ifCond .ne 6, 3) := by decide +kernel
theorem dX8_locked_36 : decode cX8_locked 36 = .ok (.bipush (-2), 2) := by decide +kernel
theorem dX8_locked_38 : decode cX8_locked 38 = .ok (.ireturn, 1) := by decide +kernel
theorem dX8_locked_39 : decode cX8_locked 39 = .ok (.aload_n 0, 1) := by decide +kernel
theorem dX8_locked_40 : decode cX8_locked 40 = .ok (.getfield 38, 3) := by decide +kernel
theorem dX8_locked_43 : decode cX8_locked 43 = .ok (.iload_n 1, 1) := by decide +kernel
theorem dX8_locked_44 : decode cX8_locked 44 = .ok (.iload_n 2, 1) := by decide +kernel
theorem dX8_locked_45 : decode cX8_locked 45 = .ok (.invokevirtual 131, 3) := by decide +kernel
theorem dX8_locked_48 : decode cX8_locked 48 = .ok (.ireturn, 1) := by decide +kernel
set_option maxRecDepth 20000 in
theorem ggX8_cause_X8_within : GoodIn wsX8_cause wsX8_within := goodIn_r _ [5] (by decide +kernel) (by decide +kernel)
set_option maxRecDepth 20000 in
theorem gX8_cause_X8_within : GoodIn wsX8_cause (va_wsS RX8 76 yX8_within wsX8_within) := goodIn_app (goodIn_of _ (by decide +kernel)) ggX8_cause_X8_within
set_option maxRecDepth 20000 in
theorem ggX8_cause_X1_causeInOrder : GoodIn wsX8_cause wsX1_causeInOrder := goodIn_r _ [10, 11, 12, 23, 24, 25, 26, 27, 28, 29] (by decide +kernel) (by decide +kernel)
set_option maxRecDepth 20000 in
theorem gX8_cause_X1_causeInOrder : GoodIn wsX8_cause (wsV RX8 135 RX1 yX1_causeInOrder wsX1_causeInOrder) := goodIn_app (goodIn_of _ (by decide +kernel)) ggX8_cause_X1_causeInOrder
theorem dX8_cause_0 : decode cX8_cause 0 = .ok (.iload_n 1, 1) := by decide +kernel
theorem dX8_cause_1 : decode cX8_cause 1 = .ok (.iconst 0, 1) := by decide +kernel
theorem dX8_cause_2 : decode cX8_cause 2 = .ok (.iconst 4, 1) := by decide +kernel
theorem dX8_cause_3 : decode cX8_cause 3 = .ok (.invokestatic 76, 3) := by decide +kernel
theorem dX8_cause_6 : decode cX8_cause 6 = .ok (.ifCond .ne 6, 3) := by decide +kernel
theorem dX8_cause_9 : decode cX8_cause 9 = .ok (.bipush (-2), 2) := by decide +kernel
theorem dX8_cause_11 : decode cX8_cause 11 = .ok (.ireturn, 1) := by decide +kernel
theorem dX8_cause_12 : decode cX8_cause 12 = .ok (.aload_n 0, 1) := by decide +kernel
theorem dX8_cause_13 : decode cX8_cause 13 = .ok (.getfield 38, 3) := by decide +kernel
theorem dX8_cause_16 : decode cX8_cause 16 = .ok (.iload_n 1, 1) := by decide +kernel
theorem dX8_cause_17 : decode cX8_cause 17 = .ok (.invokevirtual 135, 3) := by decide +kernel
theorem dX8_cause_20 : decode cX8_cause 20 = .ok (.ireturn, 1) := by decide +kernel
set_option maxRecDepth 20000 in
theorem ggX8_followed_X8_within : GoodIn wsX8_followed wsX8_within := goodIn_r _ [5] (by decide +kernel) (by decide +kernel)
set_option maxRecDepth 20000 in
theorem gX8_followed_X8_within : GoodIn wsX8_followed (va_wsS RX8 76 yX8_within wsX8_within) := goodIn_app (goodIn_of _ (by decide +kernel)) ggX8_followed_X8_within
set_option maxRecDepth 20000 in
theorem ggX8_followed_X1_modesBehind : GoodIn wsX8_followed wsX1_modesBehind := goodIn_r _ [10, 11, 3, 4, 5, 22, 23, 24, 25, 26, 27, 28] (by decide +kernel) (by decide +kernel)
set_option maxRecDepth 20000 in
theorem gX8_followed_X1_modesBehind : GoodIn wsX8_followed (wsV RX8 138 RX1 yX1_modesBehind wsX1_modesBehind) := goodIn_app (goodIn_of _ (by decide +kernel)) ggX8_followed_X1_modesBehind
theorem dX8_followed_0 : decode cX8_followed 0 = .ok (.iload_n 1, 1) := by decide +kernel
theorem dX8_followed_1 : decode cX8_followed 1 = .ok (.iconst 0, 1) := by decide +kernel
theorem dX8_followed_2 : decode cX8_followed 2 = .ok (.iconst 4, 1) := by decide +kernel
theorem dX8_followed_3 : decode cX8_followed 3 = .ok (.invokestatic 76, 3) := by decide +kernel
theorem dX8_followed_6 : decode cX8_followed 6 = .ok (.ifCond .ne 6, 3) := by decide +kernel
theorem dX8_followed_9 : decode cX8_followed 9 = .ok (.bipush (-2), 2) := by decide +kernel
theorem dX8_followed_11 : decode cX8_followed 11 = .ok (.ireturn, 1) := by decide +kernel
theorem dX8_followed_12 : decode cX8_followed 12 = .ok (.aload_n 0, 1) := by decide +kernel
theorem dX8_followed_13 : decode cX8_followed 13 = .ok (.getfield 38, 3) := by decide +kernel
theorem dX8_followed_16 : decode cX8_followed 16 = .ok (.iload_n 1, 1) := by decide +kernel
theorem dX8_followed_17 : decode cX8_followed 17 = .ok (.invokevirtual 138, 3) := by decide +kernel
theorem dX8_followed_20 : decode cX8_followed 20 = .ok (.ireturn, 1) := by decide +kernel
set_option maxRecDepth 20000 in
theorem ggX8_places_J6_bitCount_0f7a4 : GoodIn wsX8_places wsJ6_bitCount_0f7a4 := goodIn_r _ [6, 7, 8, 9] (by decide +kernel) (by decide +kernel)
set_option maxRecDepth 20000 in
theorem gX8_places_J6_bitCount_0f7a4 : GoodIn wsX8_places (va_wsS RX8 144 yJ6_bitCount_0f7a4 wsJ6_bitCount_0f7a4) := goodIn_app (goodIn_of _ (by decide +kernel)) ggX8_places_J6_bitCount_0f7a4
theorem dX8_places_0 : decode cX8_places 0 = .ok (.aload_n 0, 1) := by decide +kernel
theorem dX8_places_1 : decode cX8_places 1 = .ok (.getfield 38, 3) := by decide +kernel
theorem dX8_places_4 : decode cX8_places 4 = .ok (.getfield 141, 3) := by decide +kernel
theorem dX8_places_7 : decode cX8_places 7 = .ok (.invokestatic 144, 3) := by decide +kernel
theorem dX8_places_10 : decode cX8_places 10 = .ok (.ireturn, 1) := by decide +kernel
set_option maxRecDepth 20000 in
theorem ggX8_step_X8_isSet : GoodIn wsX8_step wsX8_isSet := goodIn_r _ [7, 8, 9, 6, 10] (by decide +kernel) (by decide +kernel)
set_option maxRecDepth 20000 in
theorem gX8_step_X8_isSet : GoodIn wsX8_step (va_wsS RX8 105 yX8_isSet wsX8_isSet) := goodIn_app (goodIn_of _ (by decide +kernel)) ggX8_step_X8_isSet
set_option maxRecDepth 20000 in
theorem ggX8_step_X3_append : GoodIn wsX8_step wsX3_append := goodIn_r _ [15, 16, 17, 9, 6, 10, 28, 29] (by decide +kernel) (by decide +kernel)
set_option maxRecDepth 20000 in
theorem gX8_step_X3_append : GoodIn wsX8_step (wsV RX8 152 RX3 yX3_append wsX3_append) := goodIn_app (goodIn_of _ (by decide +kernel)) ggX8_step_X3_append
theorem dX8_step_0 : decode cX8_step 0 = .ok (.iload_n 1, 1) := by decide +kernel
theorem dX8_step_1 : decode cX8_step 1 = .ok (.invokestatic 105, 3) := by decide +kernel
theorem dX8_step_4 : decode cX8_step 4 = .ok (.ifCond .ne 6, 3) := by decide +kernel
theorem dX8_step_7 : decode cX8_step 7 = .ok (.bipush (-2), 2) := by decide +kernel
theorem dX8_step_9 : decode cX8_step 9 = .ok (.ireturn, 1) := by decide +kernel
theorem dX8_step_10 : decode cX8_step 10 = .ok (.aload_n 0, 1) := by decide +kernel
theorem dX8_step_11 : decode cX8_step 11 = .ok (.getfield 45, 3) := by decide +kernel
theorem dX8_step_14 : decode cX8_step 14 = .ok (.getfield 149, 3) := by decide +kernel
theorem dX8_step_17 : decode cX8_step 17 = .ok (.bipush 32, 2) := by decide +kernel
theorem dX8_step_19 : decode cX8_step 19 = .ok (.if_icmp .lt 6, 3) := by decide +kernel
theorem dX8_step_22 : decode cX8_step 22 = .ok (.bipush (-4), 2) := by decide +kernel
theorem dX8_step_24 : decode cX8_step 24 = .ok (.ireturn, 1) := by decide +kernel
theorem dX8_step_25 : decode cX8_step 25 = .ok (.aload_n 0, 1) := by decide +kernel
theorem dX8_step_26 : decode cX8_step 26 = .ok (.getfield 45, 3) := by decide +kernel
theorem dX8_step_29 : decode cX8_step 29 = .ok (.iload_n 1, 1) := by decide +kernel
theorem dX8_step_30 : decode cX8_step 30 = .ok (.invokevirtual 152, 3) := by decide +kernel
theorem dX8_step_33 : decode cX8_step 33 = .ok (.aload_n 0, 1) := by decide +kernel
theorem dX8_step_34 : decode cX8_step 34 = .ok (.iconst 0, 1) := by decide +kernel
theorem dX8_step_35 : decode cX8_step 35 = .ok (.putfield 72, 3) := by decide +kernel
theorem dX8_step_38 : decode cX8_step 38 = .ok (.aload_n 0, 1) := by decide +kernel
theorem dX8_step_39 : decode cX8_step 39 = .ok (.getfield 45, 3) := by decide +kernel
theorem dX8_step_42 : decode cX8_step 42 = .ok (.getfield 149, 3) := by decide +kernel
theorem dX8_step_45 : decode cX8_step 45 = .ok (.ireturn, 1) := by decide +kernel
theorem dX8_wipe_0 : decode cX8_wipe 0 = .ok (.aload_n 0, 1) := by decide +kernel
theorem dX8_wipe_1 : decode cX8_wipe 1 = .ok (.getfield 45, 3) := by decide +kernel
theorem dX8_wipe_4 : decode cX8_wipe 4 = .ok (.getfield 149, 3) := by decide +kernel
theorem dX8_wipe_7 : decode cX8_wipe 7 = .ok (.istore_n 1, 1) := by decide +kernel
theorem dX8_wipe_8 : decode cX8_wipe 8 = .ok (.aload_n 0, 1) := by decide +kernel
theorem dX8_wipe_9 : decode cX8_wipe 9 = .ok (.getfield 45, 3) := by decide +kernel
theorem dX8_wipe_12 : decode cX8_wipe 12 = .ok (.iconst 0, 1) := by decide +kernel
theorem dX8_wipe_13 : decode cX8_wipe 13 = .ok (.putfield 149, 3) := by decide +kernel
theorem dX8_wipe_16 : decode cX8_wipe 16 = .ok (.aload_n 0, 1) := by decide +kernel
theorem dX8_wipe_17 : decode cX8_wipe 17 = .ok (.iconst 0, 1) := by decide +kernel
theorem dX8_wipe_18 : decode cX8_wipe 18 = .ok (.putfield 72, 3) := by decide +kernel
theorem dX8_wipe_21 : decode cX8_wipe 21 = .ok (.iload_n 1, 1) := by decide +kernel
theorem dX8_wipe_22 : decode cX8_wipe 22 = .ok (.ireturn, 1) := by decide +kernel
set_option maxRecDepth 20000 in
theorem ggX8_stepAt_X8_within : GoodIn wsX8_stepAt wsX8_within := goodIn_r _ [6] (by decide +kernel) (by decide +kernel)
set_option maxRecDepth 20000 in
theorem gX8_stepAt_X8_within : GoodIn wsX8_stepAt (va_wsS RX8 76 yX8_within wsX8_within) := goodIn_app (goodIn_of _ (by decide +kernel)) ggX8_stepAt_X8_within
set_option maxRecDepth 20000 in
theorem ggX8_stepAt_X3_setAt : GoodIn wsX8_stepAt wsX3_setAt := goodIn_r _ [11, 12, 4, 5, 6, 23, 24] (by decide +kernel) (by decide +kernel)
set_option maxRecDepth 20000 in
theorem gX8_stepAt_X3_setAt : GoodIn wsX8_stepAt (wsV RX8 155 RX3 yX3_setAt wsX3_setAt) := goodIn_app (goodIn_of _ (by decide +kernel)) ggX8_stepAt_X3_setAt
theorem dX8_stepAt_0 : decode cX8_stepAt 0 = .ok (.iload_n 1, 1) := by decide +kernel
theorem dX8_stepAt_1 : decode cX8_stepAt 1 = .ok (.iconst 0, 1) := by decide +kernel
theorem dX8_stepAt_2 : decode cX8_stepAt 2 = .ok (.aload_n 0, 1) := by decide +kernel
theorem dX8_stepAt_3 : decode cX8_stepAt 3 = .ok (.getfield 45, 3) := by decide +kernel
theorem dX8_stepAt_6 : decode cX8_stepAt 6 = .ok (.getfield 149, 3) := by decide +kernel
theorem dX8_stepAt_9 : decode cX8_stepAt 9 = .ok (.iconst 1, 1) := by decide +kernel
theorem dX8_stepAt_10 : decode cX8_stepAt 10 = .ok (.isub, 1) := by decide +kernel
theorem dX8_stepAt_11 : decode cX8_stepAt 11 = .ok (.invokestatic 76, 3) := by decide +kernel
theorem dX8_stepAt_14 : decode cX8_stepAt 14 = .ok (.ifCond .ne 5, 3) := by decide +kernel
theorem dX8_stepAt_17 : decode cX8_stepAt 17 = .ok (.iconst (-1), 1) := by decide +kernel
theorem dX8_stepAt_18 : decode cX8_stepAt 18 = .ok (.ireturn, 1) := by decide +kernel
theorem dX8_stepAt_19 : decode cX8_stepAt 19 = .ok (.aload_n 0, 1) := by decide +kernel
theorem dX8_stepAt_20 : decode cX8_stepAt 20 = .ok (.getfield 45, 3) := by decide +kernel
theorem dX8_stepAt_23 : decode cX8_stepAt 23 = .ok (.iload_n 1, 1) := by decide +kernel
theorem dX8_stepAt_24 : decode cX8_stepAt 24 = .ok (.invokevirtual 155, 3) := by decide +kernel
theorem dX8_stepAt_27 : decode cX8_stepAt 27 = .ok (.ireturn, 1) := by decide +kernel
set_option maxRecDepth 20000 in
theorem ggX8_trial_X8_within : GoodIn wsX8_trial wsX8_within := goodIn_r _ [7] (by decide +kernel) (by decide +kernel)
set_option maxRecDepth 20000 in
theorem gX8_trial_X8_within : GoodIn wsX8_trial (va_wsS RX8 76 yX8_within wsX8_within) := goodIn_app (goodIn_of _ (by decide +kernel)) ggX8_trial_X8_within
set_option maxRecDepth 20000 in
theorem ggX8_trial_X6_run : GoodIn wsX8_trial wsX6_run := goodIn_r _ [12, 13, 14, 15, 16, 17, 18, 19, 20, 21, 22, 23, 24, 25, 26, 27, 28, 29, 30, 31, 32, 33, 34, 35, 36, 37, 38, 39, 40, 41, 42, 43, 44, 45, 46, 47, 48, 49, 50, 51, 52, 53, 54, 55, 56, 57, 58, 59, 5, 6, 7, 60, 61, 62, 63, 64, 65, 66, 67, 68, 69, 70, 71, 72, 73, 74, 75, 76, 77, 78, 79, 80, 81, 82, 83, 84, 85, 86, 87, 88, 89, 90, 91, 92, 93, 94, 95, 96, 97, 98, 99, 100, 101, 102, 103, 104, 105, 106, 107, 108, 109, 110, 111, 112, 113, 114, 115, 116, 117, 118, 119, 120, 121, 122, 123, 124, 125, 126, 127, 128, 129, 130, 131, 132, 133, 134, 135, 136, 155, 156, 157, 158, 153, 154, 159, 160, 161, 162, 163, 164, 165, 166, 167, 168, 169, 170, 171, 172, 173, 174, 175, 176, 177, 178, 179, 180, 181, 182, 183, 184, 185] (by decide +kernel) (by decide +kernel)
set_option maxRecDepth 20000 in
theorem gX8_trial_X6_run : GoodIn wsX8_trial (wsV RX8 158 RX6 yX6_run wsX6_run) := goodIn_app (goodIn_of _ (by decide +kernel)) ggX8_trial_X6_run
set_option maxRecDepth 20000 in
theorem ggX8_trial_X6_part : GoodIn wsX8_trial wsX6_part := goodIn_r _ [140, 14, 141, 15, 16, 18, 142, 155, 156, 157, 158, 159, 160, 161, 162, 163, 164, 165, 166, 167, 168, 169, 170, 171, 172, 173, 174, 175, 176] (by decide +kernel) (by decide +kernel)
set_option maxRecDepth 20000 in
theorem gX8_trial_X6_part : GoodIn wsX8_trial (wsV RX8 162 RX6 yX6_part wsX6_part) := goodIn_app (goodIn_of _ (by decide +kernel)) ggX8_trial_X6_part
theorem dX8_trial_0 : decode cX8_trial 0 = .ok (.iload_n 1, 1) := by decide +kernel
theorem dX8_trial_1 : decode cX8_trial 1 = .ok (.iconst 0, 1) := by decide +kernel
theorem dX8_trial_2 : decode cX8_trial 2 = .ok (.bipush 8, 2) := by decide +kernel
theorem dX8_trial_4 : decode cX8_trial 4 = .ok (.invokestatic 76, 3) := by decide +kernel
theorem dX8_trial_7 : decode cX8_trial 7 = .ok (.ifCond .ne 5, 3) := by decide +kernel
theorem dX8_trial_10 : decode cX8_trial 10 = .ok (.iconst (-1), 1) := by decide +kernel
theorem dX8_trial_11 : decode cX8_trial 11 = .ok (.ireturn, 1) := by decide +kernel
theorem dX8_trial_12 : decode cX8_trial 12 = .ok (.iload_n 2, 1) := by decide +kernel
theorem dX8_trial_13 : decode cX8_trial 13 = .ok (.iconst 0, 1) := by decide +kernel
theorem dX8_trial_14 : decode cX8_trial 14 = .ok (.iconst 1, 1) := by decide +kernel
theorem dX8_trial_15 : decode cX8_trial 15 = .ok (.invokestatic 76, 3) := by decide +kernel
theorem dX8_trial_18 : decode cX8_trial 18 = .ok (.ifCond .eq 28, 3) := by decide +kernel
theorem dX8_trial_21 : decode cX8_trial 21 = .ok (.iload_n 3, 1) := by decide +kernel
theorem dX8_trial_22 : decode cX8_trial 22 = .ok (.iconst 0, 1) := by decide +kernel
theorem dX8_trial_23 : decode cX8_trial 23 = .ok (.aload_n 0, 1) := by decide +kernel
theorem dX8_trial_24 : decode cX8_trial 24 = .ok (.getfield 45, 3) := by decide +kernel
theorem dX8_trial_27 : decode cX8_trial 27 = .ok (.getfield 149, 3) := by decide +kernel
theorem dX8_trial_30 : decode cX8_trial 30 = .ok (.invokestatic 76, 3) := by decide +kernel
theorem dX8_trial_33 : decode cX8_trial 33 = .ok (.ifCond .eq 13, 3) := by decide +kernel
theorem dX8_trial_36 : decode cX8_trial 36 = .ok (.iload 4, 2) := by decide +kernel
theorem dX8_trial_38 : decode cX8_trial 38 = .ok (.iconst 0, 1) := by decide +kernel
theorem dX8_trial_39 : decode cX8_trial 39 = .ok (.iconst 4, 1) := by decide +kernel
theorem dX8_trial_40 : decode cX8_trial 40 = .ok (.invokestatic 76, 3) := by decide +kernel
theorem dX8_trial_43 : decode cX8_trial 43 = .ok (.ifCond .ne 6, 3) := by decide +kernel
theorem dX8_trial_46 : decode cX8_trial 46 = .ok (.bipush (-2), 2) := by decide +kernel
theorem dX8_trial_48 : decode cX8_trial 48 = .ok (.ireturn, 1) := by decide +kernel
theorem dX8_trial_49 : decode cX8_trial 49 = .ok (.aload_n 0, 1) := by decide +kernel
theorem dX8_trial_50 : decode cX8_trial 50 = .ok (.getfield 54, 3) := by decide +kernel
theorem dX8_trial_53 : decode cX8_trial 53 = .ok (.aload_n 0, 1) := by decide +kernel
theorem dX8_trial_54 : decode cX8_trial 54 = .ok (.getfield 45, 3) := by decide +kernel
theorem dX8_trial_57 : decode cX8_trial 57 = .ok (.iload_n 1, 1) := by decide +kernel
theorem dX8_trial_58 : decode cX8_trial 58 = .ok (.iload_n 2, 1) := by decide +kernel
theorem dX8_trial_59 : decode cX8_trial 59 = .ok (.iload_n 3, 1) := by decide +kernel
theorem dX8_trial_60 : decode cX8_trial 60 = .ok (.invokevirtual 158, 3) := by decide +kernel
theorem dX8_trial_63 : decode cX8_trial 63 = .ok (.aload_n 0, 1) := by decide +kernel
theorem dX8_trial_64 : decode cX8_trial 64 = .ok (.getfield 54, 3) := by decide +kernel
theorem dX8_trial_67 : decode cX8_trial 67 = .ok (.iload 4, 2) := by decide +kernel
theorem dX8_trial_69 : decode cX8_trial 69 = .ok (.invokevirtual 162, 3) := by decide +kernel
theorem dX8_trial_72 : decode cX8_trial 72 = .ok (.ireturn, 1) := by decide +kernel
set_option maxRecDepth 20000 in
theorem ggX8_trials_X8_within : GoodIn wsX8_trials wsX8_within := goodIn_r _ [6] (by decide +kernel) (by decide +kernel)
set_option maxRecDepth 20000 in
theorem gX8_trials_X8_within : GoodIn wsX8_trials (va_wsS RX8 76 yX8_within wsX8_within) := goodIn_app (goodIn_of _ (by decide +kernel)) ggX8_trials_X8_within
set_option maxRecDepth 20000 in
theorem ggX8_trials_X8_sumUpTrials : GoodIn wsX8_trials wsX8_sumUpTrials := goodIn_r _ [10, 11, 12, 13, 2, 14, 15, 16, 17, 18, 19, 20, 21, 22, 23, 24, 25, 26, 27, 28, 29, 30, 31, 32, 33, 34, 35, 36, 37, 38, 39, 40, 41, 42, 43, 44, 45, 46, 47, 48, 49, 50, 51, 52, 53, 54, 55, 56, 57, 58, 59, 60, 61, 62, 63, 64, 65, 66, 67, 4, 5, 6, 68, 69, 70, 71, 72, 73, 74, 75, 76, 77, 78, 79, 80, 81, 82, 83, 84, 85, 86, 87, 88, 89, 90, 91, 92, 93, 94, 95, 96, 97, 98, 99, 100, 101, 102, 103, 104, 105, 106, 107, 108, 109, 110, 111, 112, 113, 114, 115, 116, 117, 118, 119, 120, 121, 122, 123, 124, 125, 126, 127, 128, 129, 130, 131, 132, 133, 134, 135, 136, 137, 138, 139, 140, 141, 142, 143, 144, 145, 146, 147, 148, 149, 150, 151, 152, 153, 154, 155, 156, 157, 158, 159, 160, 161, 162, 163, 164, 165, 166, 167, 168, 169, 170, 171, 172, 177, 178, 179, 180, 181, 182, 183, 184, 185, 186, 187, 188, 189, 190, 191, 192, 193, 194, 195, 196, 197, 198, 199, 200, 201, 202, 203, 204, 205, 206, 207, 208, 209, 210, 211, 212, 213, 214, 215, 216, 217, 218, 219, 220, 221, 222, 223, 224, 225, 226] (by decide +kernel) (by decide +kernel)
set_option maxRecDepth 20000 in
theorem gX8_trials_X8_sumUpTrials : GoodIn wsX8_trials (wsV RX8 163 RX8 yX8_sumUpTrials wsX8_sumUpTrials) := goodIn_app (goodIn_of _ (by decide +kernel)) ggX8_trials_X8_sumUpTrials
set_option maxRecDepth 20000 in
theorem ggX8_trials_X7_part : GoodIn wsX8_trials wsX7_part := goodIn_r _ [176, 151, 152, 153, 154, 155, 156, 220, 221, 222, 223, 224, 225, 226] (by decide +kernel) (by decide +kernel)
set_option maxRecDepth 20000 in
theorem gX8_trials_X7_part : GoodIn wsX8_trials (wsV RX8 166 RX7 yX7_part wsX7_part) := goodIn_app (goodIn_of _ (by decide +kernel)) ggX8_trials_X7_part
theorem dX8_trials_0 : decode cX8_trials 0 = .ok (.iload_n 1, 1) := by decide +kernel
theorem dX8_trials_1 : decode cX8_trials 1 = .ok (.iconst 0, 1) := by decide +kernel
theorem dX8_trials_2 : decode cX8_trials 2 = .ok (.iconst 5, 1) := by decide +kernel
theorem dX8_trials_3 : decode cX8_trials 3 = .ok (.invokestatic 76, 3) := by decide +kernel
theorem dX8_trials_6 : decode cX8_trials 6 = .ok (.ifCond .ne 6, 3) := by decide +kernel
theorem dX8_trials_9 : decode cX8_trials 9 = .ok (.bipush (-2), 2) := by decide +kernel
theorem dX8_trials_11 : decode cX8_trials 11 = .ok (.ireturn, 1) := by decide +kernel
theorem dX8_trials_12 : decode cX8_trials 12 = .ok (.aload_n 0, 1) := by decide +kernel
theorem dX8_trials_13 : decode cX8_trials 13 = .ok (.getfield 72, 3) := by decide +kernel
theorem dX8_trials_16 : decode cX8_trials 16 = .ok (.ifCond .ne 12, 3) := by decide +kernel
theorem dX8_trials_19 : decode cX8_trials 19 = .ok (.aload_n 0, 1) := by decide +kernel
theorem dX8_trials_20 : decode cX8_trials 20 = .ok (.invokevirtual 163, 3) := by decide +kernel
theorem dX8_trials_23 : decode cX8_trials 23 = .ok (.aload_n 0, 1) := by decide +kernel
theorem dX8_trials_24 : decode cX8_trials 24 = .ok (.iconst 1, 1) := by decide +kernel
theorem dX8_trials_25 : decode cX8_trials 25 = .ok (.putfield 72, 3) := by decide +kernel
theorem dX8_trials_28 : decode cX8_trials 28 = .ok (.aload_n 0, 1) := by decide +kernel
theorem dX8_trials_29 : decode cX8_trials 29 = .ok (.getfield 61, 3) := by decide +kernel
theorem dX8_trials_32 : decode cX8_trials 32 = .ok (.iload_n 1, 1) := by decide +kernel
theorem dX8_trials_33 : decode cX8_trials 33 = .ok (.invokevirtual 166, 3) := by decide +kernel
theorem dX8_trials_36 : decode cX8_trials 36 = .ok (.ireturn, 1) := by decide +kernel
set_option maxRecDepth 20000 in
theorem ggX8_reach_X8_isSet : GoodIn wsX8_reach wsX8_isSet := goodIn_r _ [6, 7, 8, 5, 9] (by decide +kernel) (by decide +kernel)
set_option maxRecDepth 20000 in
theorem gX8_reach_X8_isSet : GoodIn wsX8_reach (va_wsS RX8 105 yX8_isSet wsX8_isSet) := goodIn_app (goodIn_of _ (by decide +kernel)) ggX8_reach_X8_isSet
set_option maxRecDepth 20000 in
theorem ggX8_reach_J6_bitCount_0f7a4 : GoodIn wsX8_reach wsJ6_bitCount_0f7a4 := goodIn_r _ [13, 14, 15, 16] (by decide +kernel) (by decide +kernel)
set_option maxRecDepth 20000 in
theorem gX8_reach_J6_bitCount_0f7a4 : GoodIn wsX8_reach (va_wsS RX8 144 yJ6_bitCount_0f7a4 wsJ6_bitCount_0f7a4) := goodIn_app (goodIn_of _ (by decide +kernel)) ggX8_reach_J6_bitCount_0f7a4
set_option maxRecDepth 20000 in
theorem ggX8_reach_X8_within : GoodIn wsX8_reach wsX8_within := goodIn_r _ [9] (by decide +kernel) (by decide +kernel)
set_option maxRecDepth 20000 in
theorem gX8_reach_X8_within : GoodIn wsX8_reach (va_wsS RX8 76 yX8_within wsX8_within) := goodIn_app (goodIn_of _ (by decide +kernel)) ggX8_reach_X8_within
set_option maxRecDepth 20000 in
theorem ggX8_reach_X4_run : GoodIn wsX8_reach wsX4_run := goodIn_r _ [21, 22, 23, 24, 25, 26, 27, 28, 29, 30, 31, 32, 33, 34, 35, 36, 37, 20, 38, 39, 40, 41, 42, 43, 44, 45, 11, 12, 13, 14, 15, 16, 46, 47, 48, 49, 50, 51, 52, 53, 54, 55, 56, 57, 58, 59, 60, 61, 62, 63, 64, 65, 66, 67, 68, 69, 8, 5, 9, 70, 71, 72, 73, 74, 75, 76, 77, 78, 79, 80, 81, 82, 83, 84, 85, 86, 87, 88, 89, 90, 91, 92, 93, 94, 95, 96, 97, 98, 99, 100, 101, 102, 103, 104, 105, 106, 107, 108, 109, 110, 111, 112, 113, 114, 115, 116, 117, 118, 119, 120, 121, 122, 123, 124, 125, 126, 127, 128, 129, 130, 131, 132, 133, 134, 135, 136, 137, 138, 139, 140, 141, 142, 143, 144, 145, 146, 147, 148, 149, 150, 151, 152, 153, 154, 155, 156, 157, 158, 159, 160, 161, 162, 163, 164, 165, 166, 167, 168, 169, 170, 171, 186, 187, 188, 189, 190, 191, 192, 193, 194, 195, 196, 197, 198, 199, 200, 201, 202, 203, 204, 205, 206, 207, 208, 209, 210, 211, 212, 213, 214, 215, 216, 217, 218, 219] (by decide +kernel) (by decide +kernel)
set_option maxRecDepth 20000 in
theorem gX8_reach_X4_run : GoodIn wsX8_reach (wsV RX8 167 RX4 yX4_run wsX4_run) := goodIn_app (goodIn_of _ (by decide +kernel)) ggX8_reach_X4_run
set_option maxRecDepth 20000 in
theorem ggX8_reach_X4_part : GoodIn wsX8_reach wsX4_part := goodIn_r _ [175, 24, 25, 23, 8, 5, 9, 186, 187, 188, 189, 190, 191, 192] (by decide +kernel) (by decide +kernel)
set_option maxRecDepth 20000 in
theorem gX8_reach_X4_part : GoodIn wsX8_reach (wsV RX8 170 RX4 yX4_part wsX4_part) := goodIn_app (goodIn_of _ (by decide +kernel)) ggX8_reach_X4_part
theorem dX8_reach_0 : decode cX8_reach 0 = .ok (.iload_n 1, 1) := by decide +kernel
theorem dX8_reach_1 : decode cX8_reach 1 = .ok (.invokestatic 105, 3) := by decide +kernel
theorem dX8_reach_4 : decode cX8_reach 4 = .ok (.ifCond .eq 27, 3) := by decide +kernel
theorem dX8_reach_7 : decode cX8_reach 7 = .ok (.iload_n 2, 1) := by decide +kernel
theorem dX8_reach_8 : decode cX8_reach 8 = .ok (.invokestatic 105, 3) := by decide +kernel
theorem dX8_reach_11 : decode cX8_reach 11 = .ok (.ifCond .eq 20, 3) := by decide +kernel
theorem dX8_reach_14 : decode cX8_reach 14 = .ok (.iload_n 2, 1) := by decide +kernel
theorem dX8_reach_15 : decode cX8_reach 15 = .ok (.invokestatic 144, 3) := by decide +kernel
theorem dX8_reach_18 : decode cX8_reach 18 = .ok (.iconst 2, 1) := by decide +kernel
theorem dX8_reach_19 : decode cX8_reach 19 = .ok (.if_icmp .gt 12, 3) := by decide +kernel
theorem dX8_reach_22 : decode cX8_reach 22 = .ok (.iload_n 3, 1) := by decide +kernel
theorem dX8_reach_23 : decode cX8_reach 23 = .ok (.iconst 0, 1) := by decide +kernel
theorem dX8_reach_24 : decode cX8_reach 24 = .ok (.iconst 5, 1) := by decide +kernel
theorem dX8_reach_25 : decode cX8_reach 25 = .ok (.invokestatic 76, 3) := by decide +kernel
theorem dX8_reach_28 : decode cX8_reach 28 = .ok (.ifCond .ne 6, 3) := by decide +kernel
theorem dX8_reach_31 : decode cX8_reach 31 = .ok (.bipush (-2), 2) := by decide +kernel
theorem dX8_reach_33 : decode cX8_reach 33 = .ok (.ireturn, 1) := by decide +kernel
theorem dX8_reach_34 : decode cX8_reach 34 = .ok (.iload 4, 2) := by decide +kernel
theorem dX8_reach_36 : decode cX8_reach 36 = .ok (.iconst 0, 1) := by decide +kernel
theorem dX8_reach_37 : decode cX8_reach 37 = .ok (.iconst 1, 1) := by decide +kernel
theorem dX8_reach_38 : decode cX8_reach 38 = .ok (.invokestatic 76, 3) := by decide +kernel
theorem dX8_reach_41 : decode cX8_reach 41 = .ok (.ifCond .ne 18, 3) := by decide +kernel
theorem dX8_reach_44 : decode cX8_reach 44 = .ok (.iload 4, 2) := by decide +kernel
theorem dX8_reach_46 : decode cX8_reach 46 = .ok (.bipush 10, 2) := by decide +kernel
theorem dX8_reach_48 : decode cX8_reach 48 = .ok (.bipush 14, 2) := by decide +kernel
theorem dX8_reach_50 : decode cX8_reach 50 = .ok (.invokestatic 76, 3) := by decide +kernel
theorem dX8_reach_53 : decode cX8_reach 53 = .ok (.ifCond .ne 6, 3) := by decide +kernel
theorem dX8_reach_56 : decode cX8_reach 56 = .ok (.bipush (-2), 2) := by decide +kernel
theorem dX8_reach_58 : decode cX8_reach 58 = .ok (.ireturn, 1) := by decide +kernel
theorem dX8_reach_59 : decode cX8_reach 59 = .ok (.aload_n 0, 1) := by decide +kernel
theorem dX8_reach_60 : decode cX8_reach 60 = .ok (.getfield 68, 3) := by decide +kernel
theorem dX8_reach_63 : decode cX8_reach 63 = .ok (.aload_n 0, 1) := by decide +kernel
theorem dX8_reach_64 : decode cX8_reach 64 = .ok (.getfield 28, 3) := by decide +kernel
theorem dX8_reach_67 : decode cX8_reach 67 = .ok (.iload_n 1, 1) := by decide +kernel
theorem dX8_reach_68 : decode cX8_reach 68 = .ok (.iload_n 2, 1) := by decide +kernel
theorem dX8_reach_69 : decode cX8_reach 69 = .ok (.iload_n 3, 1) := by decide +kernel
theorem dX8_reach_70 : decode cX8_reach 70 = .ok (.invokevirtual 167, 3) := by decide +kernel
theorem dX8_reach_73 : decode cX8_reach 73 = .ok (.aload_n 0, 1) := by decide +kernel
theorem dX8_reach_74 : decode cX8_reach 74 = .ok (.getfield 68, 3) := by decide +kernel
theorem dX8_reach_77 : decode cX8_reach 77 = .ok (.iload 4, 2) := by decide +kernel
theorem dX8_reach_79 : decode cX8_reach 79 = .ok (.invokevirtual 170, 3) := by decide +kernel
theorem dX8_reach_82 : decode cX8_reach 82 = .ok (.ireturn, 1) := by decide +kernel
set_option maxRecDepth 20000 in
theorem ggX8_many_J6_bitCount_0f7a4 : GoodIn wsX8_many wsJ6_bitCount_0f7a4 := goodIn_r _ [15, 16, 17, 18] (by decide +kernel) (by decide +kernel)
set_option maxRecDepth 20000 in
theorem gX8_many_J6_bitCount_0f7a4 : GoodIn wsX8_many (va_wsS RX8 144 yJ6_bitCount_0f7a4 wsJ6_bitCount_0f7a4) := goodIn_app (goodIn_of _ (by decide +kernel)) ggX8_many_J6_bitCount_0f7a4
set_option maxRecDepth 20000 in
theorem ggX8_many_X0_valvesStuck : GoodIn wsX8_many wsX0_valvesStuck := goodIn_r _ [23, 24, 25, 63, 64, 65, 66] (by decide +kernel) (by decide +kernel)
set_option maxRecDepth 20000 in
theorem gX8_many_X0_valvesStuck : GoodIn wsX8_many (wsV RX8 186 RX0 yX0_valvesStuck wsX0_valvesStuck) := goodIn_app (goodIn_of _ (by decide +kernel)) ggX8_many_X0_valvesStuck
theorem dX8_many_0 : decode cX8_many 0 = .ok (.iload_n 1, 1) := by decide +kernel
theorem dX8_many_1 : decode cX8_many 1 = .ok (.tableswitch 110 0 6 #[43, 51, 59, 67, 75, 94, 102], 43) := by decide +kernel
theorem dX8_many_44 : decode cX8_many 44 = .ok (.aload_n 0, 1) := by decide +kernel
theorem dX8_many_45 : decode cX8_many 45 = .ok (.getfield 38, 3) := by decide +kernel
theorem dX8_many_48 : decode cX8_many 48 = .ok (.getfield 171, 3) := by decide +kernel
theorem dX8_many_51 : decode cX8_many 51 = .ok (.ireturn, 1) := by decide +kernel
theorem dX8_many_52 : decode cX8_many 52 = .ok (.aload_n 0, 1) := by decide +kernel
theorem dX8_many_53 : decode cX8_many 53 = .ok (.getfield 28, 3) := by decide +kernel
theorem dX8_many_56 : decode cX8_many 56 = .ok (.getfield 174, 3) := by decide +kernel
theorem dX8_many_59 : decode cX8_many 59 = .ok (.ireturn, 1) := by decide +kernel
theorem dX8_many_60 : decode cX8_many 60 = .ok (.aload_n 0, 1) := by decide +kernel
theorem dX8_many_61 : decode cX8_many 61 = .ok (.getfield 28, 3) := by decide +kernel
theorem dX8_many_64 : decode cX8_many 64 = .ok (.getfield 177, 3) := by decide +kernel
theorem dX8_many_67 : decode cX8_many 67 = .ok (.ireturn, 1) := by decide +kernel
theorem dX8_many_68 : decode cX8_many 68 = .ok (.aload_n 0, 1) := by decide +kernel
theorem dX8_many_69 : decode cX8_many 69 = .ok (.getfield 45, 3) := by decide +kernel
theorem dX8_many_72 : decode cX8_many 72 = .ok (.getfield 149, 3) := by decide +kernel
theorem dX8_many_75 : decode cX8_many 75 = .ok (.ireturn, 1) := by decide +kernel
theorem dX8_many_76 : decode cX8_many 76 = .ok (.aload_n 0, 1) := by decide +kernel
theorem dX8_many_77 : decode cX8_many 77 = .ok (.getfield 19, 3) := by decide +kernel
theorem dX8_many_80 : decode cX8_many 80 = .ok (.getfield 180, 3) := by decide +kernel
theorem dX8_many_83 : decode cX8_many 83 = .ok (.aload_n 0, 1) := by decide +kernel
theorem dX8_many_84 : decode cX8_many 84 = .ok (.getfield 19, 3) := by decide +kernel
theorem dX8_many_87 : decode cX8_many 87 = .ok (.getfield 183, 3) := by decide +kernel
theorem dX8_many_90 : decode cX8_many 90 = .ok (.ior, 1) := by decide +kernel
theorem dX8_many_91 : decode cX8_many 91 = .ok (.invokestatic 144, 3) := by decide +kernel
theorem dX8_many_94 : decode cX8_many 94 = .ok (.ireturn, 1) := by decide +kernel
theorem dX8_many_95 : decode cX8_many 95 = .ok (.aload_n 0, 1) := by decide +kernel
theorem dX8_many_96 : decode cX8_many 96 = .ok (.getfield 19, 3) := by decide +kernel
theorem dX8_many_99 : decode cX8_many 99 = .ok (.invokevirtual 186, 3) := by decide +kernel
theorem dX8_many_102 : decode cX8_many 102 = .ok (.ireturn, 1) := by decide +kernel
theorem dX8_many_103 : decode cX8_many 103 = .ok (.aload_n 0, 1) := by decide +kernel
theorem dX8_many_104 : decode cX8_many 104 = .ok (.getfield 38, 3) := by decide +kernel
theorem dX8_many_107 : decode cX8_many 107 = .ok (.getfield 190, 3) := by decide +kernel
theorem dX8_many_110 : decode cX8_many 110 = .ok (.ireturn, 1) := by decide +kernel
theorem dX8_many_111 : decode cX8_many 111 = .ok (.bipush (-2), 2) := by decide +kernel
theorem dX8_many_113 : decode cX8_many 113 = .ok (.ireturn, 1) := by decide +kernel
set_option maxRecDepth 20000 in
theorem ggX8_advanceNoted_X2_advance : GoodIn wsX8_advanceNoted wsX2_advance := goodIn_r _ [10, 11, 12, 13, 14, 15, 16, 17, 18, 19, 20, 21, 22, 23, 24, 25, 26, 27, 28, 9, 29, 30, 31, 32, 33, 34, 35, 36, 37, 38, 39, 40, 41, 42, 43, 44, 45, 46, 47, 48, 49, 50, 51, 52, 53, 54, 55, 56, 57, 58, 59, 60, 61, 62, 63, 64, 65, 66, 67, 68, 69, 70, 71, 72, 73, 74, 75, 76, 77, 78, 79, 80, 81, 82, 83, 84, 85, 86, 87, 88, 89, 90, 91, 92, 93, 94, 95, 96, 97, 98, 99, 100, 101, 102, 103, 104, 105, 142, 143, 144, 145, 146, 147, 148, 149, 150, 151, 152, 153, 154, 155, 156, 157, 158, 159, 160, 161, 162, 163, 164, 165, 166, 167, 168] (by decide +kernel) (by decide +kernel)
set_option maxRecDepth 20000 in
theorem gX8_advanceNoted_X2_advance : GoodIn wsX8_advanceNoted (wsV RX8 125 RX2 yX2_advance wsX2_advance) := goodIn_app (goodIn_of _ (by decide +kernel)) ggX8_advanceNoted_X2_advance
set_option maxRecDepth 20000 in
theorem ggX8_advanceNoted_X1_addTick : GoodIn wsX8_advanceNoted wsX1_addTick := goodIn_r _ [110, 111, 112, 113, 31, 114, 169, 170, 171, 172, 173, 174, 175] (by decide +kernel) (by decide +kernel)
set_option maxRecDepth 20000 in
theorem gX8_advanceNoted_X1_addTick : GoodIn wsX8_advanceNoted (wsV RX8 196 RX1 yX1_addTick wsX1_addTick) := goodIn_app (goodIn_of _ (by decide +kernel)) ggX8_advanceNoted_X1_addTick
set_option maxRecDepth 20000 in
theorem ggX8_advanceNoted_X1_addLock : GoodIn wsX8_advanceNoted wsX1_addLock := goodIn_r _ [118, 119, 120, 121, 122, 123, 113, 31, 114, 124, 125, 126, 109, 127, 128, 129, 130, 131, 169, 170, 171, 172, 173, 174, 175] (by decide +kernel) (by decide +kernel)
set_option maxRecDepth 20000 in
theorem gX8_advanceNoted_X1_addLock : GoodIn wsX8_advanceNoted (wsV RX8 202 RX1 yX1_addLock wsX1_addLock) := goodIn_app (goodIn_of _ (by decide +kernel)) ggX8_advanceNoted_X1_addLock
theorem dX8_advanceNoted_0 : decode cX8_advanceNoted 0 = .ok (.aload_n 0, 1) := by decide +kernel
theorem dX8_advanceNoted_1 : decode cX8_advanceNoted 1 = .ok (.getfield 28, 3) := by decide +kernel
theorem dX8_advanceNoted_4 : decode cX8_advanceNoted 4 = .ok (.getfield 113, 3) := by decide +kernel
theorem dX8_advanceNoted_7 : decode cX8_advanceNoted 7 = .ok (.istore_n 2, 1) := by decide +kernel
theorem dX8_advanceNoted_8 : decode cX8_advanceNoted 8 = .ok (.aload_n 0, 1) := by decide +kernel
theorem dX8_advanceNoted_9 : decode cX8_advanceNoted 9 = .ok (.getfield 28, 3) := by decide +kernel
theorem dX8_advanceNoted_12 : decode cX8_advanceNoted 12 = .ok (.getfield 193, 3) := by decide +kernel
theorem dX8_advanceNoted_15 : decode cX8_advanceNoted 15 = .ok (.istore_n 3, 1) := by decide +kernel
theorem dX8_advanceNoted_16 : decode cX8_advanceNoted 16 = .ok (.aload_n 0, 1) := by decide +kernel
theorem dX8_advanceNoted_17 : decode cX8_advanceNoted 17 = .ok (.getfield 28, 3) := by decide +kernel
theorem dX8_advanceNoted_20 : decode cX8_advanceNoted 20 = .ok (.iload_n 1, 1) := by decide +kernel
theorem dX8_advanceNoted_21 : decode cX8_advanceNoted 21 = .ok (.invokevirtual 125, 3) := by decide +kernel
theorem dX8_advanceNoted_24 : decode cX8_advanceNoted 24 = .ok (.aload_n 0, 1) := by decide +kernel
theorem dX8_advanceNoted_25 : decode cX8_advanceNoted 25 = .ok (.getfield 38, 3) := by decide +kernel
theorem dX8_advanceNoted_28 : decode cX8_advanceNoted 28 = .ok (.iload_n 2, 1) := by decide +kernel
theorem dX8_advanceNoted_29 : decode cX8_advanceNoted 29 = .ok (.aload_n 0, 1) := by decide +kernel
theorem dX8_advanceNoted_30 : decode cX8_advanceNoted 30 = .ok (.getfield 28, 3) := by decide +kernel
theorem dX8_advanceNoted_33 : decode cX8_advanceNoted 33 = .ok (.getfield 113, 3) := by decide +kernel
theorem dX8_advanceNoted_36 : decode cX8_advanceNoted 36 = .ok (.invokevirtual 196, 3) := by decide +kernel
theorem dX8_advanceNoted_39 : decode cX8_advanceNoted 39 = .ok (.iload_n 2, 1) := by decide +kernel
theorem dX8_advanceNoted_40 : decode cX8_advanceNoted 40 = .ok (.ifCond .eq 28, 3) := by decide +kernel
theorem dX8_advanceNoted_43 : decode cX8_advanceNoted 43 = .ok (.aload_n 0, 1) := by decide +kernel
theorem dX8_advanceNoted_44 : decode cX8_advanceNoted 44 = .ok (.getfield 28, 3) := by decide +kernel
theorem dX8_advanceNoted_47 : decode cX8_advanceNoted 47 = .ok (.getfield 113, 3) := by decide +kernel
theorem dX8_advanceNoted_50 : decode cX8_advanceNoted 50 = .ok (.ifCond .ne 18, 3) := by decide +kernel
theorem dX8_advanceNoted_53 : decode cX8_advanceNoted 53 = .ok (.aload_n 0, 1) := by decide +kernel
theorem dX8_advanceNoted_54 : decode cX8_advanceNoted 54 = .ok (.getfield 38, 3) := by decide +kernel
theorem dX8_advanceNoted_57 : decode cX8_advanceNoted 57 = .ok (.aload_n 0, 1) := by decide +kernel
theorem dX8_advanceNoted_58 : decode cX8_advanceNoted 58 = .ok (.getfield 28, 3) := by decide +kernel
theorem dX8_advanceNoted_61 : decode cX8_advanceNoted 61 = .ok (.getfield 199, 3) := by decide +kernel
theorem dX8_advanceNoted_64 : decode cX8_advanceNoted 64 = .ok (.iload_n 3, 1) := by decide +kernel
theorem dX8_advanceNoted_65 : decode cX8_advanceNoted 65 = .ok (.invokevirtual 202, 3) := by decide +kernel
theorem dX8_advanceNoted_68 : decode cX8_advanceNoted 68 = .ok (.return_, 1) := by decide +kernel
set_option maxRecDepth 20000 in
theorem ggX8_sumUpTrials_X6_run : GoodIn wsX8_sumUpTrials wsX6_run := goodIn_r _ [11, 12, 13, 14, 15, 16, 17, 18, 19, 20, 21, 22, 23, 24, 25, 26, 27, 28, 29, 30, 31, 32, 33, 34, 35, 36, 37, 38, 39, 40, 41, 42, 43, 44, 45, 46, 47, 48, 49, 50, 51, 52, 53, 54, 55, 56, 57, 58, 59, 60, 61, 62, 63, 64, 65, 66, 67, 68, 69, 70, 71, 72, 73, 74, 75, 76, 77, 78, 79, 80, 81, 82, 83, 84, 85, 86, 87, 88, 89, 90, 91, 92, 93, 94, 95, 96, 97, 98, 99, 100, 101, 102, 103, 104, 105, 106, 107, 108, 109, 110, 111, 112, 113, 114, 115, 116, 117, 118, 119, 120, 121, 122, 123, 124, 125, 126, 127, 128, 129, 130, 131, 132, 133, 134, 135, 136, 137, 138, 179, 180, 181, 182, 177, 178, 183, 184, 185, 186, 187, 188, 189, 190, 191, 192, 193, 194, 195, 196, 197, 198, 199, 200, 201, 202, 203, 204, 205, 206, 207, 208, 209] (by decide +kernel) (by decide +kernel)
set_option maxRecDepth 20000 in
theorem gX8_sumUpTrials_X6_run : GoodIn wsX8_sumUpTrials (wsV RX8 158 RX6 yX6_run wsX6_run) := goodIn_app (goodIn_of _ (by decide +kernel)) ggX8_sumUpTrials_X6_run
set_option maxRecDepth 20000 in
theorem ggX8_sumUpTrials_X7_begin : GoodIn wsX8_sumUpTrials wsX7_begin := goodIn_r _ [143, 144, 145, 146, 147, 148, 149, 150, 210, 211, 212, 213, 214, 215, 216] (by decide +kernel) (by decide +kernel)
set_option maxRecDepth 20000 in
theorem gX8_sumUpTrials_X7_begin : GoodIn wsX8_sumUpTrials (wsV RX8 206 RX7 yX7_begin wsX7_begin) := goodIn_app (goodIn_of _ (by decide +kernel)) ggX8_sumUpTrials_X7_begin
set_option maxRecDepth 20000 in
theorem ggX8_sumUpTrials_X8_sumUpTrialsOf : GoodIn wsX8_sumUpTrials wsX8_sumUpTrialsOf := goodIn_r _ [154, 1, 2, 3, 4, 7, 8, 9, 10, 11, 12, 13, 14, 15, 16, 17, 18, 19, 20, 21, 22, 23, 24, 25, 26, 27, 28, 29, 30, 31, 32, 33, 34, 35, 36, 37, 38, 39, 40, 41, 42, 43, 44, 45, 46, 47, 48, 49, 50, 51, 52, 53, 54, 55, 56, 57, 58, 59, 60, 61, 62, 63, 64, 65, 66, 67, 68, 69, 70, 71, 72, 73, 74, 75, 76, 77, 78, 79, 80, 81, 82, 83, 84, 85, 86, 87, 88, 89, 90, 91, 92, 93, 94, 95, 96, 97, 98, 99, 100, 101, 102, 103, 104, 105, 106, 107, 108, 109, 110, 111, 112, 113, 114, 115, 116, 117, 118, 119, 120, 121, 122, 123, 124, 125, 126, 127, 128, 129, 130, 131, 132, 133, 134, 135, 136, 137, 138, 155, 156, 157, 158, 142, 159, 145, 160, 161, 146, 162, 147, 148, 163, 164, 165, 149, 166, 144, 150, 167, 168, 169, 170, 171, 172, 173, 174, 175, 176, 177, 178, 179, 180, 181, 182, 183, 184, 185, 186, 187, 188, 189, 190, 191, 192, 193, 194, 195, 196, 197, 198, 199, 200, 201, 202, 203, 204, 205, 206, 207, 208, 209, 210, 211, 212, 213, 214, 215, 216] (by decide +kernel) (by decide +kernel)
set_option maxRecDepth 20000 in
theorem gX8_sumUpTrials_X8_sumUpTrialsOf : GoodIn wsX8_sumUpTrials (wsV RX8 208 RX8 yX8_sumUpTrialsOf wsX8_sumUpTrialsOf) := goodIn_app (goodIn_of _ (by decide +kernel)) ggX8_sumUpTrials_X8_sumUpTrialsOf
theorem dX8_sumUpTrials_0 : decode cX8_sumUpTrials 0 = .ok (.aload_n 0, 1) := by decide +kernel
theorem dX8_sumUpTrials_1 : decode cX8_sumUpTrials 1 = .ok (.getfield 54, 3) := by decide +kernel
theorem dX8_sumUpTrials_4 : decode cX8_sumUpTrials 4 = .ok (.aload_n 0, 1) := by decide +kernel
theorem dX8_sumUpTrials_5 : decode cX8_sumUpTrials 5 = .ok (.getfield 45, 3) := by decide +kernel
theorem dX8_sumUpTrials_8 : decode cX8_sumUpTrials 8 = .ok (.iconst 0, 1) := by decide +kernel
theorem dX8_sumUpTrials_9 : decode cX8_sumUpTrials 9 = .ok (.iconst 0, 1) := by decide +kernel
theorem dX8_sumUpTrials_10 : decode cX8_sumUpTrials 10 = .ok (.aload_n 0, 1) := by decide +kernel
theorem dX8_sumUpTrials_11 : decode cX8_sumUpTrials 11 = .ok (.getfield 45, 3) := by decide +kernel
theorem dX8_sumUpTrials_14 : decode cX8_sumUpTrials 14 = .ok (.getfield 149, 3) := by decide +kernel
theorem dX8_sumUpTrials_17 : decode cX8_sumUpTrials 17 = .ok (.invokevirtual 158, 3) := by decide +kernel
theorem dX8_sumUpTrials_20 : decode cX8_sumUpTrials 20 = .ok (.aload_n 0, 1) := by decide +kernel
theorem dX8_sumUpTrials_21 : decode cX8_sumUpTrials 21 = .ok (.getfield 61, 3) := by decide +kernel
theorem dX8_sumUpTrials_24 : decode cX8_sumUpTrials 24 = .ok (.aload_n 0, 1) := by decide +kernel
theorem dX8_sumUpTrials_25 : decode cX8_sumUpTrials 25 = .ok (.getfield 54, 3) := by decide +kernel
theorem dX8_sumUpTrials_28 : decode cX8_sumUpTrials 28 = .ok (.getfield 205, 3) := by decide +kernel
theorem dX8_sumUpTrials_31 : decode cX8_sumUpTrials 31 = .ok (.getfield 177, 3) := by decide +kernel
theorem dX8_sumUpTrials_34 : decode cX8_sumUpTrials 34 = .ok (.invokevirtual 206, 3) := by decide +kernel
theorem dX8_sumUpTrials_37 : decode cX8_sumUpTrials 37 = .ok (.iconst 0, 1) := by decide +kernel
theorem dX8_sumUpTrials_38 : decode cX8_sumUpTrials 38 = .ok (.istore_n 1, 1) := by decide +kernel
theorem dX8_sumUpTrials_39 : decode cX8_sumUpTrials 39 = .ok (.iload_n 1, 1) := by decide +kernel
theorem dX8_sumUpTrials_40 : decode cX8_sumUpTrials 40 = .ok (.bipush 9, 2) := by decide +kernel
theorem dX8_sumUpTrials_42 : decode cX8_sumUpTrials 42 = .ok (.if_icmp .ge 21, 3) := by decide +kernel
theorem dX8_sumUpTrials_45 : decode cX8_sumUpTrials 45 = .ok (.aload_n 0, 1) := by decide +kernel
theorem dX8_sumUpTrials_46 : decode cX8_sumUpTrials 46 = .ok (.iload_n 1, 1) := by decide +kernel
theorem dX8_sumUpTrials_47 : decode cX8_sumUpTrials 47 = .ok (.iconst 0, 1) := by decide +kernel
theorem dX8_sumUpTrials_48 : decode cX8_sumUpTrials 48 = .ok (.invokevirtual 208, 3) := by decide +kernel
theorem dX8_sumUpTrials_51 : decode cX8_sumUpTrials 51 = .ok (.aload_n 0, 1) := by decide +kernel
theorem dX8_sumUpTrials_52 : decode cX8_sumUpTrials 52 = .ok (.iload_n 1, 1) := by decide +kernel
theorem dX8_sumUpTrials_53 : decode cX8_sumUpTrials 53 = .ok (.iconst 1, 1) := by decide +kernel
theorem dX8_sumUpTrials_54 : decode cX8_sumUpTrials 54 = .ok (.invokevirtual 208, 3) := by decide +kernel
theorem dX8_sumUpTrials_57 : decode cX8_sumUpTrials 57 = .ok (.iinc 1 1, 3) := by decide +kernel
theorem dX8_sumUpTrials_60 : decode cX8_sumUpTrials 60 = .ok (.goto (-21), 3) := by decide +kernel
theorem dX8_sumUpTrials_63 : decode cX8_sumUpTrials 63 = .ok (.return_, 1) := by decide +kernel
set_option maxRecDepth 20000 in
theorem ggX8_sumUpTrialsOf_X6_run : GoodIn wsX8_sumUpTrialsOf wsX6_run := goodIn_r _ [9, 10, 11, 12, 13, 14, 15, 16, 17, 18, 19, 20, 21, 22, 23, 24, 25, 26, 27, 28, 29, 30, 31, 32, 33, 34, 35, 36, 37, 38, 39, 40, 41, 42, 43, 44, 45, 46, 47, 48, 49, 50, 51, 52, 53, 54, 55, 56, 57, 58, 59, 60, 61, 62, 63, 64, 65, 66, 67, 68, 69, 70, 71, 72, 73, 74, 75, 76, 77, 78, 79, 80, 81, 82, 83, 84, 85, 86, 87, 88, 89, 90, 91, 92, 93, 94, 95, 96, 97, 98, 99, 100, 101, 102, 103, 104, 105, 106, 107, 108, 109, 110, 111, 112, 113, 114, 115, 116, 117, 118, 119, 120, 121, 122, 123, 124, 125, 126, 127, 128, 129, 130, 131, 132, 133, 134, 135, 136, 169, 170, 171, 172, 167, 168, 173, 174, 175, 176, 177, 178, 179, 180, 181, 182, 183, 184, 185, 186, 187, 188, 189, 190, 191, 192, 193, 194, 195, 196, 197, 198, 199] (by decide +kernel) (by decide +kernel)
set_option maxRecDepth 20000 in
theorem gX8_sumUpTrialsOf_X6_run : GoodIn wsX8_sumUpTrialsOf (wsV RX8 158 RX6 yX6_run wsX6_run) := goodIn_app (goodIn_of _ (by decide +kernel)) ggX8_sumUpTrialsOf_X6_run
set_option maxRecDepth 20000 in
theorem ggX8_sumUpTrialsOf_X3_setAt : GoodIn wsX8_sumUpTrialsOf wsX3_setAt := goodIn_r _ [55, 56, 57, 58, 59, 167, 168] (by decide +kernel) (by decide +kernel)
set_option maxRecDepth 20000 in
theorem gX8_sumUpTrialsOf_X3_setAt : GoodIn wsX8_sumUpTrialsOf (wsV RX8 155 RX3 yX3_setAt wsX3_setAt) := goodIn_app (goodIn_of _ (by decide +kernel)) ggX8_sumUpTrialsOf_X3_setAt
set_option maxRecDepth 20000 in
theorem ggX8_sumUpTrialsOf_X8_bit : GoodIn wsX8_sumUpTrialsOf wsX8_bit := goodIn_r _ [76] (by decide +kernel) (by decide +kernel)
set_option maxRecDepth 20000 in
theorem gX8_sumUpTrialsOf_X8_bit : GoodIn wsX8_sumUpTrialsOf (va_wsS RX8 211 yX8_bit wsX8_bit) := goodIn_app (goodIn_of _ (by decide +kernel)) ggX8_sumUpTrialsOf_X8_bit
set_option maxRecDepth 20000 in
theorem ggX8_sumUpTrialsOf_X7_add : GoodIn wsX8_sumUpTrialsOf wsX7_add := goodIn_r _ [142, 143, 144, 145, 146, 147, 148, 149, 150, 151, 82, 152, 153, 154, 155, 156, 200, 201, 202, 203, 204, 205, 206, 169, 170, 171, 172, 173, 174, 175, 176, 177, 178, 179, 180, 181, 182, 183, 184, 185, 186, 187, 188, 189, 190] (by decide +kernel) (by decide +kernel)
set_option maxRecDepth 20000 in
theorem gX8_sumUpTrialsOf_X7_add : GoodIn wsX8_sumUpTrialsOf (wsV RX8 214 RX7 yX7_add wsX7_add) := goodIn_app (goodIn_of _ (by decide +kernel)) ggX8_sumUpTrialsOf_X7_add
theorem dX8_sumUpTrialsOf_0 : decode cX8_sumUpTrialsOf 0 = .ok (.aload_n 0, 1) := by decide +kernel
theorem dX8_sumUpTrialsOf_1 : decode cX8_sumUpTrialsOf 1 = .ok (.getfield 54, 3) := by decide +kernel
theorem dX8_sumUpTrialsOf_4 : decode cX8_sumUpTrialsOf 4 = .ok (.aload_n 0, 1) := by decide +kernel
theorem dX8_sumUpTrialsOf_5 : decode cX8_sumUpTrialsOf 5 = .ok (.getfield 45, 3) := by decide +kernel
theorem dX8_sumUpTrialsOf_8 : decode cX8_sumUpTrialsOf 8 = .ok (.iload_n 1, 1) := by decide +kernel
theorem dX8_sumUpTrialsOf_9 : decode cX8_sumUpTrialsOf 9 = .ok (.iload_n 2, 1) := by decide +kernel
theorem dX8_sumUpTrialsOf_10 : decode cX8_sumUpTrialsOf 10 = .ok (.aload_n 0, 1) := by decide +kernel
theorem dX8_sumUpTrialsOf_11 : decode cX8_sumUpTrialsOf 11 = .ok (.getfield 45, 3) := by decide +kernel
theorem dX8_sumUpTrialsOf_14 : decode cX8_sumUpTrialsOf 14 = .ok (.getfield 149, 3) := by decide +kernel
theorem dX8_sumUpTrialsOf_17 : decode cX8_sumUpTrialsOf 17 = .ok (.invokevirtual 158, 3) := by decide +kernel
theorem dX8_sumUpTrialsOf_20 : decode cX8_sumUpTrialsOf 20 = .ok (.aload_n 0, 1) := by decide +kernel
theorem dX8_sumUpTrialsOf_21 : decode cX8_sumUpTrialsOf 21 = .ok (.getfield 45, 3) := by decide +kernel
theorem dX8_sumUpTrialsOf_24 : decode cX8_sumUpTrialsOf 24 = .ok (.getfield 149, 3) := by decide +kernel
theorem dX8_sumUpTrialsOf_27 : decode cX8_sumUpTrialsOf 27 = .ok (.iconst 1, 1) := by decide +kernel
theorem dX8_sumUpTrialsOf_28 : decode cX8_sumUpTrialsOf 28 = .ok (.isub, 1) := by decide +kernel
theorem dX8_sumUpTrialsOf_29 : decode cX8_sumUpTrialsOf 29 = .ok (.istore_n 3, 1) := by decide +kernel
theorem dX8_sumUpTrialsOf_30 : decode cX8_sumUpTrialsOf 30 = .ok (.iload_n 3, 1) := by decide +kernel
theorem dX8_sumUpTrialsOf_31 : decode cX8_sumUpTrialsOf 31 = .ok (.ifCond .lt 51, 3) := by decide +kernel
theorem dX8_sumUpTrialsOf_34 : decode cX8_sumUpTrialsOf 34 = .ok (.aload_n 0, 1) := by decide +kernel
theorem dX8_sumUpTrialsOf_35 : decode cX8_sumUpTrialsOf 35 = .ok (.getfield 45, 3) := by decide +kernel
theorem dX8_sumUpTrialsOf_38 : decode cX8_sumUpTrialsOf 38 = .ok (.iload_n 3, 1) := by decide +kernel
theorem dX8_sumUpTrialsOf_39 : decode cX8_sumUpTrialsOf 39 = .ok (.invokevirtual 155, 3) := by decide +kernel
theorem dX8_sumUpTrialsOf_42 : decode cX8_sumUpTrialsOf 42 = .ok (.iload_n 1, 1) := by decide +kernel
theorem dX8_sumUpTrialsOf_43 : decode cX8_sumUpTrialsOf 43 = .ok (.invokestatic 211, 3) := by decide +kernel
theorem dX8_sumUpTrialsOf_46 : decode cX8_sumUpTrialsOf 46 = .ok (.iload_n 2, 1) := by decide +kernel
theorem dX8_sumUpTrialsOf_47 : decode cX8_sumUpTrialsOf 47 = .ok (.if_icmp .eq 17, 3) := by decide +kernel
theorem dX8_sumUpTrialsOf_50 : decode cX8_sumUpTrialsOf 50 = .ok (.aload_n 0, 1) := by decide +kernel
theorem dX8_sumUpTrialsOf_51 : decode cX8_sumUpTrialsOf 51 = .ok (.getfield 54, 3) := by decide +kernel
theorem dX8_sumUpTrialsOf_54 : decode cX8_sumUpTrialsOf 54 = .ok (.aload_n 0, 1) := by decide +kernel
theorem dX8_sumUpTrialsOf_55 : decode cX8_sumUpTrialsOf 55 = .ok (.getfield 45, 3) := by decide +kernel
theorem dX8_sumUpTrialsOf_58 : decode cX8_sumUpTrialsOf 58 = .ok (.iload_n 1, 1) := by decide +kernel
theorem dX8_sumUpTrialsOf_59 : decode cX8_sumUpTrialsOf 59 = .ok (.iload_n 2, 1) := by decide +kernel
theorem dX8_sumUpTrialsOf_60 : decode cX8_sumUpTrialsOf 60 = .ok (.iload_n 3, 1) := by decide +kernel
theorem dX8_sumUpTrialsOf_61 : decode cX8_sumUpTrialsOf 61 = .ok (.invokevirtual 158, 3) := by decide +kernel
theorem dX8_sumUpTrialsOf_64 : decode cX8_sumUpTrialsOf 64 = .ok (.aload_n 0, 1) := by decide +kernel
theorem dX8_sumUpTrialsOf_65 : decode cX8_sumUpTrialsOf 65 = .ok (.getfield 61, 3) := by decide +kernel
theorem dX8_sumUpTrialsOf_68 : decode cX8_sumUpTrialsOf 68 = .ok (.aload_n 0, 1) := by decide +kernel
theorem dX8_sumUpTrialsOf_69 : decode cX8_sumUpTrialsOf 69 = .ok (.getfield 54, 3) := by decide +kernel
theorem dX8_sumUpTrialsOf_72 : decode cX8_sumUpTrialsOf 72 = .ok (.iload_n 3, 1) := by decide +kernel
theorem dX8_sumUpTrialsOf_73 : decode cX8_sumUpTrialsOf 73 = .ok (.invokevirtual 214, 3) := by decide +kernel
theorem dX8_sumUpTrialsOf_76 : decode cX8_sumUpTrialsOf 76 = .ok (.iinc 3 (-1), 3) := by decide +kernel
theorem dX8_sumUpTrialsOf_79 : decode cX8_sumUpTrialsOf 79 = .ok (.goto (-49), 3) := by decide +kernel
theorem dX8_sumUpTrialsOf_82 : decode cX8_sumUpTrialsOf 82 = .ok (.return_, 1) := by decide +kernel
theorem dX8_within_0 : decode cX8_within 0 = .ok (.iload_n 0, 1) := by decide +kernel
theorem dX8_within_1 : decode cX8_within 1 = .ok (.iload_n 1, 1) := by decide +kernel
theorem dX8_within_2 : decode cX8_within 2 = .ok (.if_icmp .lt 12, 3) := by decide +kernel
theorem dX8_within_5 : decode cX8_within 5 = .ok (.iload_n 0, 1) := by decide +kernel
theorem dX8_within_6 : decode cX8_within 6 = .ok (.iload_n 2, 1) := by decide +kernel
theorem dX8_within_7 : decode cX8_within 7 = .ok (.if_icmp .gt 7, 3) := by decide +kernel
theorem dX8_within_10 : decode cX8_within 10 = .ok (.iconst 1, 1) := by decide +kernel
theorem dX8_within_11 : decode cX8_within 11 = .ok (.goto 4, 3) := by decide +kernel
theorem dX8_within_14 : decode cX8_within 14 = .ok (.iconst 0, 1) := by decide +kernel
theorem dX8_within_15 : decode cX8_within 15 = .ok (.ireturn, 1) := by decide +kernel
set_option maxRecDepth 20000 in
theorem ggX8_isSet_X8_within : GoodIn wsX8_isSet wsX8_within := goodIn_r _ [4] (by decide +kernel) (by decide +kernel)
set_option maxRecDepth 20000 in
theorem gX8_isSet_X8_within : GoodIn wsX8_isSet (va_wsS RX8 76 yX8_within wsX8_within) := goodIn_app (goodIn_of _ (by decide +kernel)) ggX8_isSet_X8_within
theorem dX8_isSet_0 : decode cX8_isSet 0 = .ok (.iload_n 0, 1) := by decide +kernel
theorem dX8_isSet_1 : decode cX8_isSet 1 = .ok (.iconst 0, 1) := by decide +kernel
theorem dX8_isSet_2 : decode cX8_isSet 2 = .ok (.sipush 511, 3) := by decide +kernel
theorem dX8_isSet_5 : decode cX8_isSet 5 = .ok (.invokestatic 76, 3) := by decide +kernel
theorem dX8_isSet_8 : decode cX8_isSet 8 = .ok (.ireturn, 1) := by decide +kernel
theorem dX8_bit_0 : decode cX8_bit 0 = .ok (.iload_n 0, 1) := by decide +kernel
theorem dX8_bit_1 : decode cX8_bit 1 = .ok (.iload_n 1, 1) := by decide +kernel
theorem dX8_bit_2 : decode cX8_bit 2 = .ok (.ishr, 1) := by decide +kernel
theorem dX8_bit_3 : decode cX8_bit 3 = .ok (.iconst 1, 1) := by decide +kernel
theorem dX8_bit_4 : decode cX8_bit 4 = .ok (.iand, 1) := by decide +kernel
theorem dX8_bit_5 : decode cX8_bit 5 = .ok (.ireturn, 1) := by decide +kernel
set_option maxRecDepth 20000 in
theorem ggX8_pairCount_X8_bit : GoodIn wsX8_pairCount wsX8_bit := goodIn_r _ [4] (by decide +kernel) (by decide +kernel)
set_option maxRecDepth 20000 in
theorem gX8_pairCount_X8_bit : GoodIn wsX8_pairCount (va_wsS RX8 211 yX8_bit wsX8_bit) := goodIn_app (goodIn_of _ (by decide +kernel)) ggX8_pairCount_X8_bit
theorem dX8_pairCount_0 : decode cX8_pairCount 0 = .ok (.iload_n 0, 1) := by decide +kernel
theorem dX8_pairCount_1 : decode cX8_pairCount 1 = .ok (.iload_n 1, 1) := by decide +kernel
theorem dX8_pairCount_2 : decode cX8_pairCount 2 = .ok (.invokestatic 211, 3) := by decide +kernel
theorem dX8_pairCount_5 : decode cX8_pairCount 5 = .ok (.iload_n 0, 1) := by decide +kernel
theorem dX8_pairCount_6 : decode cX8_pairCount 6 = .ok (.iload_n 1, 1) := by decide +kernel
theorem dX8_pairCount_7 : decode cX8_pairCount 7 = .ok (.iconst 1, 1) := by decide +kernel
theorem dX8_pairCount_8 : decode cX8_pairCount 8 = .ok (.iadd, 1) := by decide +kernel
theorem dX8_pairCount_9 : decode cX8_pairCount 9 = .ok (.invokestatic 211, 3) := by decide +kernel
theorem dX8_pairCount_12 : decode cX8_pairCount 12 = .ok (.iadd, 1) := by decide +kernel
theorem dX8_pairCount_13 : decode cX8_pairCount 13 = .ok (.ireturn, 1) := by decide +kernel
theorem dX9_init_0 : decode cX9_init 0 = .ok (.aload_n 0, 1) := by decide +kernel
theorem dX9_init_1 : decode cX9_init 1 = .ok (.invokespecial 1, 3) := by decide +kernel
theorem dX9_init_4 : decode cX9_init 4 = .ok (.aload_n 0, 1) := by decide +kernel
theorem dX9_init_5 : decode cX9_init 5 = .ok (.iconst 2, 1) := by decide +kernel
theorem dX9_init_6 : decode cX9_init 6 = .ok (.putfield 7, 3) := by decide +kernel
theorem dX9_init_9 : decode cX9_init 9 = .ok (.aload_n 0, 1) := by decide +kernel
theorem dX9_init_10 : decode cX9_init 10 = .ok (.iconst 3, 1) := by decide +kernel
theorem dX9_init_11 : decode cX9_init 11 = .ok (.putfield 13, 3) := by decide +kernel
theorem dX9_init_14 : decode cX9_init 14 = .ok (.aload_n 0, 1) := by decide +kernel
theorem dX9_init_15 : decode cX9_init 15 = .ok (.bipush 12, 2) := by decide +kernel
theorem dX9_init_17 : decode cX9_init 17 = .ok (.putfield 16, 3) := by decide +kernel
theorem dX9_init_20 : decode cX9_init 20 = .ok (.aload_n 0, 1) := by decide +kernel
theorem dX9_init_21 : decode cX9_init 21 = .ok (.iconst 1, 1) := by decide +kernel
theorem dX9_init_22 : decode cX9_init 22 = .ok (.putfield 19, 3) := by decide +kernel
theorem dX9_init_25 : decode cX9_init 25 = .ok (.aload_n 0, 1) := by decide +kernel
theorem dX9_init_26 : decode cX9_init 26 = .ok (.iconst 4, 1) := by decide +kernel
theorem dX9_init_27 : decode cX9_init 27 = .ok (.putfield 22, 3) := by decide +kernel
theorem dX9_init_30 : decode cX9_init 30 = .ok (.aload_n 0, 1) := by decide +kernel
theorem dX9_init_31 : decode cX9_init 31 = .ok (.bipush 9, 2) := by decide +kernel
theorem dX9_init_33 : decode cX9_init 33 = .ok (.newarray .int, 2) := by decide +kernel
theorem dX9_init_35 : decode cX9_init 35 = .ok (.putfield 25, 3) := by decide +kernel
theorem dX9_init_38 : decode cX9_init 38 = .ok (.aload_n 0, 1) := by decide +kernel
theorem dX9_init_39 : decode cX9_init 39 = .ok (.iconst 2, 1) := by decide +kernel
theorem dX9_init_40 : decode cX9_init 40 = .ok (.newarray .int, 2) := by decide +kernel
theorem dX9_init_42 : decode cX9_init 42 = .ok (.putfield 29, 3) := by decide +kernel
theorem dX9_init_45 : decode cX9_init 45 = .ok (.aload_n 0, 1) := by decide +kernel
theorem dX9_init_46 : decode cX9_init 46 = .ok (.iconst 1, 1) := by decide +kernel
theorem dX9_init_47 : decode cX9_init 47 = .ok (.putfield 32, 3) := by decide +kernel
theorem dX9_init_50 : decode cX9_init 50 = .ok (.aload_n 0, 1) := by decide +kernel
theorem dX9_init_51 : decode cX9_init 51 = .ok (.iconst 3, 1) := by decide +kernel
theorem dX9_init_52 : decode cX9_init 52 = .ok (.newarray .int, 2) := by decide +kernel
theorem dX9_init_54 : decode cX9_init 54 = .ok (.putfield 35, 3) := by decide +kernel
theorem dX9_init_57 : decode cX9_init 57 = .ok (.aload_n 0, 1) := by decide +kernel
theorem dX9_init_58 : decode cX9_init 58 = .ok (.bipush (-9), 2) := by decide +kernel
theorem dX9_init_60 : decode cX9_init 60 = .ok (.putfield 38, 3) := by decide +kernel
theorem dX9_init_63 : decode cX9_init 63 = .ok (.aload_n 0, 1) := by decide +kernel
theorem dX9_init_64 : decode cX9_init 64 = .ok (.bipush 90, 2) := by decide +kernel
theorem dX9_init_66 : decode cX9_init 66 = .ok (.newarray .int, 2) := by decide +kernel
theorem dX9_init_68 : decode cX9_init 68 = .ok (.putfield 41, 3) := by decide +kernel
theorem dX9_init_71 : decode cX9_init 71 = .ok (.aload_n 0, 1) := by decide +kernel
theorem dX9_init_72 : decode cX9_init 72 = .ok (.iconst 5, 1) := by decide +kernel
theorem dX9_init_73 : decode cX9_init 73 = .ok (.newarray .int, 2) := by decide +kernel
theorem dX9_init_75 : decode cX9_init 75 = .ok (.putfield 44, 3) := by decide +kernel
theorem dX9_init_78 : decode cX9_init 78 = .ok (.aload_n 0, 1) := by decide +kernel
theorem dX9_init_79 : decode cX9_init 79 = .ok (.iconst 5, 1) := by decide +kernel
theorem dX9_init_80 : decode cX9_init 80 = .ok (.newarray .int, 2) := by decide +kernel
theorem dX9_init_82 : decode cX9_init 82 = .ok (.putfield 47, 3) := by decide +kernel
theorem dX9_init_85 : decode cX9_init 85 = .ok (.aload_n 0, 1) := by decide +kernel
theorem dX9_init_86 : decode cX9_init 86 = .ok (.bipush 32, 2) := by decide +kernel
theorem dX9_init_88 : decode cX9_init 88 = .ok (.newarray .int, 2) := by decide +kernel
theorem dX9_init_90 : decode cX9_init 90 = .ok (.putfield 50, 3) := by decide +kernel
theorem dX9_init_93 : decode cX9_init 93 = .ok (.aload_n 0, 1) := by decide +kernel
theorem dX9_init_94 : decode cX9_init 94 = .ok (.iconst 5, 1) := by decide +kernel
theorem dX9_init_95 : decode cX9_init 95 = .ok (.newarray .int, 2) := by decide +kernel
theorem dX9_init_97 : decode cX9_init 97 = .ok (.putfield 53, 3) := by decide +kernel
theorem dX9_init_100 : decode cX9_init 100 = .ok (.aload_n 0, 1) := by decide +kernel
theorem dX9_init_101 : decode cX9_init 101 = .ok (.bipush 11, 2) := by decide +kernel
theorem dX9_init_103 : decode cX9_init 103 = .ok (.newarray .int, 2) := by decide +kernel
theorem dX9_init_105 : decode cX9_init 105 = .ok (.putfield 56, 3) := by decide +kernel
theorem dX9_init_108 : decode cX9_init 108 = .ok (.aload_n 0, 1) := by decide +kernel
theorem dX9_init_109 : decode cX9_init 109 = .ok (.sipush 1400, 3) := by decide +kernel
theorem dX9_init_112 : decode cX9_init 112 = .ok (.newarray .long, 2) := by decide +kernel
theorem dX9_init_114 : decode cX9_init 114 = .ok (.putfield 59, 3) := by decide +kernel
theorem dX9_init_117 : decode cX9_init 117 = .ok (.aload_n 0, 1) := by decide +kernel
theorem dX9_init_118 : decode cX9_init 118 = .ok (.sipush 1400, 3) := by decide +kernel
theorem dX9_init_121 : decode cX9_init 121 = .ok (.newarray .int, 2) := by decide +kernel
theorem dX9_init_123 : decode cX9_init 123 = .ok (.putfield 63, 3) := by decide +kernel
theorem dX9_init_126 : decode cX9_init 126 = .ok (.iconst 0, 1) := by decide +kernel
theorem dX9_init_127 : decode cX9_init 127 = .ok (.istore_n 1, 1) := by decide +kernel
theorem dX9_init_128 : decode cX9_init 128 = .ok (.iload_n 1, 1) := by decide +kernel
theorem dX9_init_129 : decode cX9_init 129 = .ok (.bipush 9, 2) := by decide +kernel
theorem dX9_init_131 : decode cX9_init 131 = .ok (.if_icmp .ge 16, 3) := by decide +kernel
theorem dX9_init_134 : decode cX9_init 134 = .ok (.aload_n 0, 1) := by decide +kernel
theorem dX9_init_135 : decode cX9_init 135 = .ok (.getfield 25, 3) := by decide +kernel
theorem dX9_init_138 : decode cX9_init 138 = .ok (.iload_n 1, 1) := by decide +kernel
theorem dX9_init_139 : decode cX9_init 139 = .ok (.iconst 2, 1) := by decide +kernel
theorem dX9_init_140 : decode cX9_init 140 = .ok (.iastore, 1) := by decide +kernel
theorem dX9_init_141 : decode cX9_init 141 = .ok (.iinc 1 1, 3) := by decide +kernel
theorem dX9_init_144 : decode cX9_init 144 = .ok (.goto (-16), 3) := by decide +kernel
theorem dX9_init_147 : decode cX9_init 147 = .ok (.aload_n 0, 1) := by decide +kernel
theorem dX9_init_148 : decode cX9_init 148 = .ok (.getfield 29, 3) := by decide +kernel
theorem dX9_init_151 : decode cX9_init 151 = .ok (.iconst 0, 1) := by decide +kernel
theorem dX9_init_152 : decode cX9_init 152 = .ok (.iconst 2, 1) := by decide +kernel
theorem dX9_init_153 : decode cX9_init 153 = .ok (.iastore, 1) := by decide +kernel
theorem dX9_init_154 : decode cX9_init 154 = .ok (.aload_n 0, 1) := by decide +kernel
theorem dX9_init_155 : decode cX9_init 155 = .ok (.getfield 29, 3) := by decide +kernel
theorem dX9_init_158 : decode cX9_init 158 = .ok (.iconst 1, 1) := by decide +kernel
theorem dX9_init_159 : decode cX9_init 159 = .ok (.iconst 2, 1) := by decide +kernel
theorem dX9_init_160 : decode cX9_init 160 = .ok (.iastore, 1) := by decide +kernel
theorem dX9_init_161 : decode cX9_init 161 = .ok (.return_, 1) := by decide +kernel
theorem dX9_within_0 : decode cX9_within 0 = .ok (.iload_n 0, 1) := by decide +kernel
theorem dX9_within_1 : decode cX9_within 1 = .ok (.iload_n 1, 1) := by decide +kernel
theorem dX9_within_2 : decode cX9_within 2 = .ok (.if_icmp .lt 12, 3) := by decide +kernel
theorem dX9_within_5 : decode cX9_within 5 = .ok (.iload_n 0, 1) := by decide +kernel
theorem dX9_within_6 : decode cX9_within 6 = .ok (.iload_n 2, 1) := by decide +kernel
theorem dX9_within_7 : decode cX9_within 7 = .ok (.if_icmp .gt 7, 3) := by decide +kernel
theorem dX9_within_10 : decode cX9_within 10 = .ok (.iconst 1, 1) := by decide +kernel
theorem dX9_within_11 : decode cX9_within 11 = .ok (.goto 4, 3) := by decide +kernel
theorem dX9_within_14 : decode cX9_within 14 = .ok (.iconst 0, 1) := by decide +kernel
theorem dX9_within_15 : decode cX9_within 15 = .ok (.ireturn, 1) := by decide +kernel
set_option maxRecDepth 20000 in
theorem ggX9_isSet_X9_within : GoodIn wsX9_isSet wsX9_within := goodIn_r _ [4] (by decide +kernel) (by decide +kernel)
set_option maxRecDepth 20000 in
theorem gX9_isSet_X9_within : GoodIn wsX9_isSet (va_wsS RX9 66 yX9_within wsX9_within) := goodIn_app (goodIn_of _ (by decide +kernel)) ggX9_isSet_X9_within
theorem dX9_isSet_0 : decode cX9_isSet 0 = .ok (.iload_n 0, 1) := by decide +kernel
theorem dX9_isSet_1 : decode cX9_isSet 1 = .ok (.iconst 0, 1) := by decide +kernel
theorem dX9_isSet_2 : decode cX9_isSet 2 = .ok (.sipush 511, 3) := by decide +kernel
theorem dX9_isSet_5 : decode cX9_isSet 5 = .ok (.invokestatic 66, 3) := by decide +kernel
theorem dX9_isSet_8 : decode cX9_isSet 8 = .ok (.ireturn, 1) := by decide +kernel
theorem dX9_bit_0 : decode cX9_bit 0 = .ok (.iload_n 0, 1) := by decide +kernel
theorem dX9_bit_1 : decode cX9_bit 1 = .ok (.iload_n 1, 1) := by decide +kernel
theorem dX9_bit_2 : decode cX9_bit 2 = .ok (.ishr, 1) := by decide +kernel
theorem dX9_bit_3 : decode cX9_bit 3 = .ok (.iconst 1, 1) := by decide +kernel
theorem dX9_bit_4 : decode cX9_bit 4 = .ok (.iand, 1) := by decide +kernel
theorem dX9_bit_5 : decode cX9_bit 5 = .ok (.ireturn, 1) := by decide +kernel
set_option maxRecDepth 20000 in
theorem ggX9_seen_X9_bit : GoodIn wsX9_seen wsX9_bit := goodIn_r _ [5] (by decide +kernel) (by decide +kernel)
set_option maxRecDepth 20000 in
theorem gX9_seen_X9_bit : GoodIn wsX9_seen (va_wsS RX9 70 yX9_bit wsX9_bit) := goodIn_app (goodIn_of _ (by decide +kernel)) ggX9_seen_X9_bit
theorem dX9_seen_0 : decode cX9_seen 0 = .ok (.iconst 0, 1) := by decide +kernel
theorem dX9_seen_1 : decode cX9_seen 1 = .ok (.istore_n 2, 1) := by decide +kernel
theorem dX9_seen_2 : decode cX9_seen 2 = .ok (.iconst 0, 1) := by decide +kernel
theorem dX9_seen_3 : decode cX9_seen 3 = .ok (.istore_n 3, 1) := by decide +kernel
theorem dX9_seen_4 : decode cX9_seen 4 = .ok (.iload_n 3, 1) := by decide +kernel
theorem dX9_seen_5 : decode cX9_seen 5 = .ok (.bipush 9, 2) := by decide +kernel
theorem dX9_seen_7 : decode cX9_seen 7 = .ok (.if_icmp .ge 38, 3) := by decide +kernel
theorem dX9_seen_10 : decode cX9_seen 10 = .ok (.iload_n 2, 1) := by decide +kernel
theorem dX9_seen_11 : decode cX9_seen 11 = .ok (.aload_n 0, 1) := by decide +kernel
theorem dX9_seen_12 : decode cX9_seen 12 = .ok (.getfield 25, 3) := by decide +kernel
theorem dX9_seen_15 : decode cX9_seen 15 = .ok (.iload_n 3, 1) := by decide +kernel
theorem dX9_seen_16 : decode cX9_seen 16 = .ok (.iaload, 1) := by decide +kernel
theorem dX9_seen_17 : decode cX9_seen 17 = .ok (.iconst 2, 1) := by decide +kernel
theorem dX9_seen_18 : decode cX9_seen 18 = .ok (.if_icmp .ne 11, 3) := by decide +kernel
theorem dX9_seen_21 : decode cX9_seen 21 = .ok (.iload_n 1, 1) := by decide +kernel
theorem dX9_seen_22 : decode cX9_seen 22 = .ok (.iload_n 3, 1) := by decide +kernel
theorem dX9_seen_23 : decode cX9_seen 23 = .ok (.invokestatic 70, 3) := by decide +kernel
theorem dX9_seen_26 : decode cX9_seen 26 = .ok (.goto 9, 3) := by decide +kernel
theorem dX9_seen_29 : decode cX9_seen 29 = .ok (.aload_n 0, 1) := by decide +kernel
theorem dX9_seen_30 : decode cX9_seen 30 = .ok (.getfield 25, 3) := by decide +kernel
theorem dX9_seen_33 : decode cX9_seen 33 = .ok (.iload_n 3, 1) := by decide +kernel
theorem dX9_seen_34 : decode cX9_seen 34 = .ok (.iaload, 1) := by decide +kernel
theorem dX9_seen_35 : decode cX9_seen 35 = .ok (.iload_n 3, 1) := by decide +kernel
theorem dX9_seen_36 : decode cX9_seen 36 = .ok (.ishl, 1) := by decide +kernel
theorem dX9_seen_37 : decode cX9_seen 37 = .ok (.ior, 1) := by decide +kernel
theorem dX9_seen_38 : decode cX9_seen 38 = .ok (.istore_n 2, 1) := by decide +kernel
theorem dX9_seen_39 : decode cX9_seen 39 = .ok (.iinc 3 1, 3) := by decide +kernel
theorem dX9_seen_42 : decode cX9_seen 42 = .ok (.goto (-38), 3) := by decide +kernel
theorem dX9_seen_45 : decode cX9_seen 45 = .ok (.iload_n 2, 1) := by decide +kernel
theorem dX9_seen_46 : decode cX9_seen 46 = .ok (.ireturn, 1) := by decide +kernel
theorem dX9_isOn_0 : decode cX9_isOn 0 = .ok (.iload_n 0, 1) := by decide +kernel
theorem dX9_isOn_1 : decode cX9_isOn 1 = .ok (.iconst 2, 1) := by decide +kernel
theorem dX9_isOn_2 : decode cX9_isOn 2 = .ok (.iload_n 1, 1) := by decide +kernel
theorem dX9_isOn_3 : decode cX9_isOn 3 = .ok (.imul, 1) := by decide +kernel
theorem dX9_isOn_4 : decode cX9_isOn 4 = .ok (.ishr, 1) := by decide +kernel
theorem dX9_isOn_5 : decode cX9_isOn 5 = .ok (.iconst 3, 1) := by decide +kernel
theorem dX9_isOn_6 : decode cX9_isOn 6 = .ok (.iand, 1) := by decide +kernel
theorem dX9_isOn_7 : decode cX9_isOn 7 = .ok (.iconst 3, 1) := by decide +kernel
theorem dX9_isOn_8 : decode cX9_isOn 8 = .ok (.if_icmp .ne 7, 3) := by decide +kernel
theorem dX9_isOn_11 : decode cX9_isOn 11 = .ok (.iconst 1, 1) := by decide +kernel
theorem dX9_isOn_12 : decode cX9_isOn 12 = .ok (.goto 4, 3) := by decide +kernel
theorem dX9_isOn_15 : decode cX9_isOn 15 = .ok (.iconst 0, 1) := by decide +kernel
theorem dX9_isOn_16 : decode cX9_isOn 16 = .ok (.ireturn, 1) := by decide +kernel
theorem dX9_mutingBy_0 : decode cX9_mutingBy 0 = .ok (.iload_n 0, 1) := by decide +kernel
theorem dX9_mutingBy_1 : decode cX9_mutingBy 1 = .ok (.iconst 4, 1) := by decide +kernel
theorem dX9_mutingBy_2 : decode cX9_mutingBy 2 = .ok (.if_icmp .ne 15, 3) := by decide +kernel
theorem dX9_mutingBy_5 : decode cX9_mutingBy 5 = .ok (.iload_n 1, 1) := by decide +kernel
theorem dX9_mutingBy_6 : decode cX9_mutingBy 6 = .ok (.iload_n 2, 1) := by decide +kernel
theorem dX9_mutingBy_7 : decode cX9_mutingBy 7 = .ok (.iadd, 1) := by decide +kernel
theorem dX9_mutingBy_8 : decode cX9_mutingBy 8 = .ok (.ifCond .ne 7, 3) := by decide +kernel
theorem dX9_mutingBy_11 : decode cX9_mutingBy 11 = .ok (.iconst 0, 1) := by decide +kernel
theorem dX9_mutingBy_12 : decode cX9_mutingBy 12 = .ok (.goto 4, 3) := by decide +kernel
theorem dX9_mutingBy_15 : decode cX9_mutingBy 15 = .ok (.iconst 4, 1) := by decide +kernel
theorem dX9_mutingBy_16 : decode cX9_mutingBy 16 = .ok (.ireturn, 1) := by decide +kernel
theorem dX9_mutingBy_17 : decode cX9_mutingBy 17 = .ok (.iload_n 1, 1) := by decide +kernel
theorem dX9_mutingBy_18 : decode cX9_mutingBy 18 = .ok (.iload_n 2, 1) := by decide +kernel
theorem dX9_mutingBy_19 : decode cX9_mutingBy 19 = .ok (.iadd, 1) := by decide +kernel
theorem dX9_mutingBy_20 : decode cX9_mutingBy 20 = .ok (.ifCond .ne 14, 3) := by decide +kernel
theorem dX9_mutingBy_23 : decode cX9_mutingBy 23 = .ok (.iload_n 0, 1) := by decide +kernel
theorem dX9_mutingBy_24 : decode cX9_mutingBy 24 = .ok (.iconst 2, 1) := by decide +kernel
theorem dX9_mutingBy_25 : decode cX9_mutingBy 25 = .ok (.if_icmp .ne 7, 3) := by decide +kernel
theorem dX9_mutingBy_28 : decode cX9_mutingBy 28 = .ok (.iconst 4, 1) := by decide +kernel
theorem dX9_mutingBy_29 : decode cX9_mutingBy 29 = .ok (.goto 4, 3) := by decide +kernel
theorem dX9_mutingBy_32 : decode cX9_mutingBy 32 = .ok (.iconst 0, 1) := by decide +kernel
theorem dX9_mutingBy_33 : decode cX9_mutingBy 33 = .ok (.ireturn, 1) := by decide +kernel
theorem dX9_mutingBy_34 : decode cX9_mutingBy 34 = .ok (.iload_n 1, 1) := by decide +kernel
theorem dX9_mutingBy_35 : decode cX9_mutingBy 35 = .ok (.iload_n 2, 1) := by decide +kernel
theorem dX9_mutingBy_36 : decode cX9_mutingBy 36 = .ok (.iadd, 1) := by decide +kernel
theorem dX9_mutingBy_37 : decode cX9_mutingBy 37 = .ok (.iconst 2, 1) := by decide +kernel
theorem dX9_mutingBy_38 : decode cX9_mutingBy 38 = .ok (.if_icmp .ne 13, 3) := by decide +kernel
theorem dX9_mutingBy_41 : decode cX9_mutingBy 41 = .ok (.iload_n 0, 1) := by decide +kernel
theorem dX9_mutingBy_42 : decode cX9_mutingBy 42 = .ok (.ifCond .ne 7, 3) := by decide +kernel
theorem dX9_mutingBy_45 : decode cX9_mutingBy 45 = .ok (.iconst 4, 1) := by decide +kernel
theorem dX9_mutingBy_46 : decode cX9_mutingBy 46 = .ok (.goto 4, 3) := by decide +kernel
theorem dX9_mutingBy_49 : decode cX9_mutingBy 49 = .ok (.iconst 2, 1) := by decide +kernel
theorem dX9_mutingBy_50 : decode cX9_mutingBy 50 = .ok (.ireturn, 1) := by decide +kernel
theorem dX9_mutingBy_51 : decode cX9_mutingBy 51 = .ok (.iload_n 1, 1) := by decide +kernel
theorem dX9_mutingBy_52 : decode cX9_mutingBy 52 = .ok (.iconst 1, 1) := by decide +kernel
theorem dX9_mutingBy_53 : decode cX9_mutingBy 53 = .ok (.if_icmp .ne 14, 3) := by decide +kernel
theorem dX9_mutingBy_56 : decode cX9_mutingBy 56 = .ok (.iload_n 0, 1) := by decide +kernel
theorem dX9_mutingBy_57 : decode cX9_mutingBy 57 = .ok (.iconst 3, 1) := by decide +kernel
theorem dX9_mutingBy_58 : decode cX9_mutingBy 58 = .ok (.if_icmp .ne 7, 3) := by decide +kernel
theorem dX9_mutingBy_61 : decode cX9_mutingBy 61 = .ok (.iconst 4, 1) := by decide +kernel
theorem dX9_mutingBy_62 : decode cX9_mutingBy 62 = .ok (.goto 4, 3) := by decide +kernel
theorem dX9_mutingBy_65 : decode cX9_mutingBy 65 = .ok (.iconst 1, 1) := by decide +kernel
theorem dX9_mutingBy_66 : decode cX9_mutingBy 66 = .ok (.ireturn, 1) := by decide +kernel
theorem dX9_mutingBy_67 : decode cX9_mutingBy 67 = .ok (.iload_n 0, 1) := by decide +kernel
theorem dX9_mutingBy_68 : decode cX9_mutingBy 68 = .ok (.iconst 2, 1) := by decide +kernel
theorem dX9_mutingBy_69 : decode cX9_mutingBy 69 = .ok (.if_icmp .lt 7, 3) := by decide +kernel
theorem dX9_mutingBy_72 : decode cX9_mutingBy 72 = .ok (.iconst 3, 1) := by decide +kernel
theorem dX9_mutingBy_73 : decode cX9_mutingBy 73 = .ok (.goto 4, 3) := by decide +kernel
theorem dX9_mutingBy_76 : decode cX9_mutingBy 76 = .ok (.iconst 4, 1) := by decide +kernel
theorem dX9_mutingBy_77 : decode cX9_mutingBy 77 = .ok (.ireturn, 1) := by decide +kernel
theorem dX9_handsBy_0 : decode cX9_handsBy 0 = .ok (.iload_n 1, 1) := by decide +kernel
theorem dX9_handsBy_1 : decode cX9_handsBy 1 = .ok (.ifCond .ne 5, 3) := by decide +kernel
theorem dX9_handsBy_4 : decode cX9_handsBy 4 = .ok (.iconst 0, 1) := by decide +kernel
theorem dX9_handsBy_5 : decode cX9_handsBy 5 = .ok (.ireturn, 1) := by decide +kernel
theorem dX9_handsBy_6 : decode cX9_handsBy 6 = .ok (.aload_n 0, 1) := by decide +kernel
theorem dX9_handsBy_7 : decode cX9_handsBy 7 = .ok (.getfield 74, 3) := by decide +kernel
theorem dX9_handsBy_10 : decode cX9_handsBy 10 = .ok (.iconst 3, 1) := by decide +kernel
theorem dX9_handsBy_11 : decode cX9_handsBy 11 = .ok (.if_icmp .ne 5, 3) := by decide +kernel
theorem dX9_handsBy_14 : decode cX9_handsBy 14 = .ok (.iconst 3, 1) := by decide +kernel
theorem dX9_handsBy_15 : decode cX9_handsBy 15 = .ok (.ireturn, 1) := by decide +kernel
theorem dX9_handsBy_16 : decode cX9_handsBy 16 = .ok (.iload_n 1, 1) := by decide +kernel
theorem dX9_handsBy_17 : decode cX9_handsBy 17 = .ok (.iconst 2, 1) := by decide +kernel
theorem dX9_handsBy_18 : decode cX9_handsBy 18 = .ok (.if_icmp .ne 5, 3) := by decide +kernel
theorem dX9_handsBy_21 : decode cX9_handsBy 21 = .ok (.iconst 2, 1) := by decide +kernel
theorem dX9_handsBy_22 : decode cX9_handsBy 22 = .ok (.ireturn, 1) := by decide +kernel
theorem dX9_handsBy_23 : decode cX9_handsBy 23 = .ok (.aload_n 0, 1) := by decide +kernel
theorem dX9_handsBy_24 : decode cX9_handsBy 24 = .ok (.getfield 74, 3) := by decide +kernel
theorem dX9_handsBy_27 : decode cX9_handsBy 27 = .ok (.iconst 2, 1) := by decide +kernel
theorem dX9_handsBy_28 : decode cX9_handsBy 28 = .ok (.if_icmp .ne 5, 3) := by decide +kernel
theorem dX9_handsBy_31 : decode cX9_handsBy 31 = .ok (.iconst 3, 1) := by decide +kernel
theorem dX9_handsBy_32 : decode cX9_handsBy 32 = .ok (.ireturn, 1) := by decide +kernel
theorem dX9_handsBy_33 : decode cX9_handsBy 33 = .ok (.aload_n 0, 1) := by decide +kernel
theorem dX9_handsBy_34 : decode cX9_handsBy 34 = .ok (.getfield 74, 3) := by decide +kernel
theorem dX9_handsBy_37 : decode cX9_handsBy 37 = .ok (.iconst 1, 1) := by decide +kernel
theorem dX9_handsBy_38 : decode cX9_handsBy 38 = .ok (.if_icmp .ne 20, 3) := by decide +kernel
theorem dX9_handsBy_41 : decode cX9_handsBy 41 = .ok (.aload_n 0, 1) := by decide +kernel
theorem dX9_handsBy_42 : decode cX9_handsBy 42 = .ok (.getfield 77, 3) := by decide +kernel
theorem dX9_handsBy_45 : decode cX9_handsBy 45 = .ok (.iconst 1, 1) := by decide +kernel
theorem dX9_handsBy_46 : decode cX9_handsBy 46 = .ok (.iadd, 1) := by decide +kernel
theorem dX9_handsBy_47 : decode cX9_handsBy 47 = .ok (.aload_n 0, 1) := by decide +kernel
theorem dX9_handsBy_48 : decode cX9_handsBy 48 = .ok (.getfield 13, 3) := by decide +kernel
theorem dX9_handsBy_51 : decode cX9_handsBy 51 = .ok (.if_icmp .le 7, 3) := by decide +kernel
theorem dX9_handsBy_54 : decode cX9_handsBy 54 = .ok (.iconst 3, 1) := by decide +kernel
theorem dX9_handsBy_55 : decode cX9_handsBy 55 = .ok (.goto 4, 3) := by decide +kernel
theorem dX9_handsBy_58 : decode cX9_handsBy 58 = .ok (.iconst 1, 1) := by decide +kernel
theorem dX9_handsBy_59 : decode cX9_handsBy 59 = .ok (.ireturn, 1) := by decide +kernel
theorem dX9_valveAt_0 : decode cX9_valveAt 0 = .ok (.aload_n 0, 1) := by decide +kernel
theorem dX9_valveAt_1 : decode cX9_valveAt 1 = .ok (.getfield 29, 3) := by decide +kernel
theorem dX9_valveAt_4 : decode cX9_valveAt 4 = .ok (.iload_n 1, 1) := by decide +kernel
theorem dX9_valveAt_5 : decode cX9_valveAt 5 = .ok (.iaload, 1) := by decide +kernel
theorem dX9_valveAt_6 : decode cX9_valveAt 6 = .ok (.iconst 2, 1) := by decide +kernel
theorem dX9_valveAt_7 : decode cX9_valveAt 7 = .ok (.if_icmp .ne 10, 3) := by decide +kernel
theorem dX9_valveAt_10 : decode cX9_valveAt 10 = .ok (.aload_n 0, 1) := by decide +kernel
theorem dX9_valveAt_11 : decode cX9_valveAt 11 = .ok (.getfield 80, 3) := by decide +kernel
theorem dX9_valveAt_14 : decode cX9_valveAt 14 = .ok (.goto 9, 3) := by decide +kernel
theorem dX9_valveAt_17 : decode cX9_valveAt 17 = .ok (.aload_n 0, 1) := by decide +kernel
theorem dX9_valveAt_18 : decode cX9_valveAt 18 = .ok (.getfield 29, 3) := by decide +kernel
theorem dX9_valveAt_21 : decode cX9_valveAt 21 = .ok (.iload_n 1, 1) := by decide +kernel
theorem dX9_valveAt_22 : decode cX9_valveAt 22 = .ok (.iaload, 1) := by decide +kernel
theorem dX9_valveAt_23 : decode cX9_valveAt 23 = .ok (.ireturn, 1) := by decide +kernel
theorem dX9_more_0 : decode cX9_more 0 = .ok (.iload_n 0, 1) := by decide +kernel
theorem dX9_more_1 : decode cX9_more 1 = .ok (.bipush 9, 2) := by decide +kernel
theorem dX9_more_3 : decode cX9_more 3 = .ok (.if_icmp .ge 9, 3) := by decide +kernel
theorem dX9_more_6 : decode cX9_more 6 = .ok (.iload_n 0, 1) := by decide +kernel
theorem dX9_more_7 : decode cX9_more 7 = .ok (.iconst 1, 1) := by decide +kernel
theorem dX9_more_8 : decode cX9_more 8 = .ok (.iadd, 1) := by decide +kernel
theorem dX9_more_9 : decode cX9_more 9 = .ok (.goto 5, 3) := by decide +kernel
theorem dX9_more_12 : decode cX9_more 12 = .ok (.bipush 9, 2) := by decide +kernel
theorem dX9_more_14 : decode cX9_more 14 = .ok (.ireturn, 1) := by decide +kernel
theorem dX9_leastCause_0 : decode cX9_leastCause 0 = .ok (.iconst 0, 1) := by decide +kernel
theorem dX9_leastCause_1 : decode cX9_leastCause 1 = .ok (.istore_n 2, 1) := by decide +kernel
theorem dX9_leastCause_2 : decode cX9_leastCause 2 = .ok (.iload_n 2, 1) := by decide +kernel
theorem dX9_leastCause_3 : decode cX9_leastCause 3 = .ok (.iconst 3, 1) := by decide +kernel
theorem dX9_leastCause_4 : decode cX9_leastCause 4 = .ok (.if_icmp .ge 26, 3) := by decide +kernel
theorem dX9_leastCause_7 : decode cX9_leastCause 7 = .ok (.aload_n 0, 1) := by decide +kernel
theorem dX9_leastCause_8 : decode cX9_leastCause 8 = .ok (.getfield 35, 3) := by decide +kernel
theorem dX9_leastCause_11 : decode cX9_leastCause 11 = .ok (.iload_n 2, 1) := by decide +kernel
theorem dX9_leastCause_12 : decode cX9_leastCause 12 = .ok (.iaload, 1) := by decide +kernel
theorem dX9_leastCause_13 : decode cX9_leastCause 13 = .ok (.aload_n 0, 1) := by decide +kernel
theorem dX9_leastCause_14 : decode cX9_leastCause 14 = .ok (.getfield 7, 3) := by decide +kernel
theorem dX9_leastCause_17 : decode cX9_leastCause 17 = .ok (.if_icmp .le 7, 3) := by decide +kernel
theorem dX9_leastCause_20 : decode cX9_leastCause 20 = .ok (.iload_n 2, 1) := by decide +kernel
theorem dX9_leastCause_21 : decode cX9_leastCause 21 = .ok (.iconst 1, 1) := by decide +kernel
theorem dX9_leastCause_22 : decode cX9_leastCause 22 = .ok (.iadd, 1) := by decide +kernel
theorem dX9_leastCause_23 : decode cX9_leastCause 23 = .ok (.ireturn, 1) := by decide +kernel
theorem dX9_leastCause_24 : decode cX9_leastCause 24 = .ok (.iinc 2 1, 3) := by decide +kernel
theorem dX9_leastCause_27 : decode cX9_leastCause 27 = .ok (.goto (-25), 3) := by decide +kernel
theorem dX9_leastCause_30 : decode cX9_leastCause 30 = .ok (.aload_n 0, 1) := by decide +kernel
theorem dX9_leastCause_31 : decode cX9_leastCause 31 = .ok (.getfield 83, 3) := by decide +kernel
theorem dX9_leastCause_34 : decode cX9_leastCause 34 = .ok (.iconst 1, 1) := by decide +kernel
theorem dX9_leastCause_35 : decode cX9_leastCause 35 = .ok (.if_icmp .le 5, 3) := by decide +kernel
theorem dX9_leastCause_38 : decode cX9_leastCause 38 = .ok (.iconst 4, 1) := by decide +kernel
theorem dX9_leastCause_39 : decode cX9_leastCause 39 = .ok (.ireturn, 1) := by decide +kernel
theorem dX9_leastCause_40 : decode cX9_leastCause 40 = .ok (.aload_n 0, 1) := by decide +kernel
theorem dX9_leastCause_41 : decode cX9_leastCause 41 = .ok (.getfield 86, 3) := by decide +kernel
theorem dX9_leastCause_44 : decode cX9_leastCause 44 = .ok (.iconst 4, 1) := by decide +kernel
theorem dX9_leastCause_45 : decode cX9_leastCause 45 = .ok (.if_icmp .ne 12, 3) := by decide +kernel
theorem dX9_leastCause_48 : decode cX9_leastCause 48 = .ok (.iload_n 1, 1) := by decide +kernel
theorem dX9_leastCause_49 : decode cX9_leastCause 49 = .ok (.iconst 2, 1) := by decide +kernel
theorem dX9_leastCause_50 : decode cX9_leastCause 50 = .ok (.if_icmp .ne 7, 3) := by decide +kernel
theorem dX9_leastCause_53 : decode cX9_leastCause 53 = .ok (.iconst 5, 1) := by decide +kernel
theorem dX9_leastCause_54 : decode cX9_leastCause 54 = .ok (.goto 5, 3) := by decide +kernel
theorem dX9_leastCause_57 : decode cX9_leastCause 57 = .ok (.bipush (-9), 2) := by decide +kernel
theorem dX9_leastCause_59 : decode cX9_leastCause 59 = .ok (.ireturn, 1) := by decide +kernel
set_option maxRecDepth 20000 in
theorem ggX9_tickBy_X9_seen : GoodIn wsX9_tickBy wsX9_seen := goodIn_r _ [15, 16, 17, 18, 14, 19, 61, 62, 63, 64, 65, 66, 67, 68, 69, 70, 71, 72, 73, 74, 75, 76, 77, 78, 79, 80, 81, 82, 83, 84, 85, 86, 87, 88, 89, 90, 91, 92, 93, 94, 95, 96, 97, 98, 99, 100] (by decide +kernel) (by decide +kernel)
set_option maxRecDepth 20000 in
theorem gX9_tickBy_X9_seen : GoodIn wsX9_tickBy (wsV RX9 89 RX9 yX9_seen wsX9_seen) := goodIn_app (goodIn_of _ (by decide +kernel)) ggX9_tickBy_X9_seen
set_option maxRecDepth 20000 in
theorem ggX9_tickBy_X9_bit : GoodIn wsX9_tickBy wsX9_bit := goodIn_r _ [19] (by decide +kernel) (by decide +kernel)
set_option maxRecDepth 20000 in
theorem gX9_tickBy_X9_bit : GoodIn wsX9_tickBy (va_wsS RX9 70 yX9_bit wsX9_bit) := goodIn_app (goodIn_of _ (by decide +kernel)) ggX9_tickBy_X9_bit
set_option maxRecDepth 20000 in
theorem ggX9_tickBy_X9_more : GoodIn wsX9_tickBy wsX9_more := goodIn_r _ [22] (by decide +kernel) (by decide +kernel)
set_option maxRecDepth 20000 in
theorem gX9_tickBy_X9_more : GoodIn wsX9_tickBy (va_wsS RX9 93 yX9_more wsX9_more) := goodIn_app (goodIn_of _ (by decide +kernel)) ggX9_tickBy_X9_more
set_option maxRecDepth 20000 in
theorem ggX9_tickBy_X9_mutingBy : GoodIn wsX9_tickBy wsX9_mutingBy := goodIn_r _ [25] (by decide +kernel) (by decide +kernel)
set_option maxRecDepth 20000 in
theorem gX9_tickBy_X9_mutingBy : GoodIn wsX9_tickBy (va_wsS RX9 96 yX9_mutingBy wsX9_mutingBy) := goodIn_app (goodIn_of _ (by decide +kernel)) ggX9_tickBy_X9_mutingBy
set_option maxRecDepth 20000 in
theorem ggX9_tickBy_X9_isOn : GoodIn wsX9_tickBy wsX9_isOn := goodIn_r _ [28] (by decide +kernel) (by decide +kernel)
set_option maxRecDepth 20000 in
theorem gX9_tickBy_X9_isOn : GoodIn wsX9_tickBy (va_wsS RX9 103 yX9_isOn wsX9_isOn) := goodIn_app (goodIn_of _ (by decide +kernel)) ggX9_tickBy_X9_isOn
set_option maxRecDepth 20000 in
theorem ggX9_tickBy_X9_handsBy : GoodIn wsX9_tickBy wsX9_handsBy := goodIn_r _ [32, 5, 6, 33, 61, 62, 63, 64, 65, 66, 67, 68, 69, 70, 71, 72, 73, 74, 75, 76, 77, 78, 79, 80, 81, 82, 83, 84, 85, 86, 87, 88, 89, 90, 91, 92, 93, 94, 95, 96, 97, 98, 99, 100] (by decide +kernel) (by decide +kernel)
set_option maxRecDepth 20000 in
theorem gX9_tickBy_X9_handsBy : GoodIn wsX9_tickBy (wsV RX9 107 RX9 yX9_handsBy wsX9_handsBy) := goodIn_app (goodIn_of _ (by decide +kernel)) ggX9_tickBy_X9_handsBy
set_option maxRecDepth 20000 in
theorem ggX9_tickBy_X9_valveAt : GoodIn wsX9_tickBy wsX9_valveAt := goodIn_r _ [37, 38, 7, 61, 62, 63, 64, 65, 66, 67, 68, 69, 70, 71, 72, 73, 74, 75, 76, 77, 78, 79, 80, 81, 82, 83, 84, 85, 86, 87, 88, 89, 90, 91, 92, 93, 94, 95, 96, 97, 98, 99, 100] (by decide +kernel) (by decide +kernel)
set_option maxRecDepth 20000 in
theorem gX9_tickBy_X9_valveAt : GoodIn wsX9_tickBy (wsV RX9 110 RX9 yX9_valveAt wsX9_valveAt) := goodIn_app (goodIn_of _ (by decide +kernel)) ggX9_tickBy_X9_valveAt
set_option maxRecDepth 20000 in
theorem ggX9_tickBy_X9_goesOn : GoodIn wsX9_tickBy wsX9_goesOn := goodIn_r _ [42, 10, 43, 44, 45, 46, 5, 47, 48, 49, 50, 14, 51, 1, 52, 8, 2, 61, 62, 63, 64, 65, 66, 67, 68, 69, 70, 71, 72, 73, 74, 75, 76, 77, 78, 79, 80, 81, 82, 83, 84, 85, 86, 87, 88, 89, 90, 91, 92, 93, 94, 95, 96, 97, 98, 99, 100] (by decide +kernel) (by decide +kernel)
set_option maxRecDepth 20000 in
theorem gX9_tickBy_X9_goesOn : GoodIn wsX9_tickBy (wsV RX9 116 RX9 yX9_goesOn wsX9_goesOn) := goodIn_app (goodIn_of _ (by decide +kernel)) ggX9_tickBy_X9_goesOn
set_option maxRecDepth 20000 in
theorem ggX9_tickBy_X9_slides : GoodIn wsX9_tickBy wsX9_slides := goodIn_r _ [56, 57, 58, 59, 60, 45, 47, 10, 34, 35, 36, 14, 37, 38, 7, 61, 62, 63, 64, 65, 66, 67, 68, 69, 70, 71, 72, 73, 74, 75, 76, 77, 78, 79, 80, 81, 82, 83, 84, 85, 86, 87, 88, 89, 90, 91, 92, 93, 94, 95, 96, 97, 98, 99, 100] (by decide +kernel) (by decide +kernel)
set_option maxRecDepth 20000 in
theorem gX9_tickBy_X9_slides : GoodIn wsX9_tickBy (wsV RX9 120 RX9 yX9_slides wsX9_slides) := goodIn_app (goodIn_of _ (by decide +kernel)) ggX9_tickBy_X9_slides
end
section
theorem dX9_tickBy_0 : decode cX9_tickBy 0 = .ok (.aload_n 0, 1) := by decide +kernel
theorem dX9_tickBy_1 : decode cX9_tickBy 1 = .ok (.iload_n 1, 1) := by decide +kernel
theorem dX9_tickBy_2 : decode cX9_tickBy 2 = .ok (.invokevirtual 89, 3) := by decide +kernel
theorem dX9_tickBy_5 : decode cX9_tickBy 5 = .ok (.istore_n 2, 1) := by decide +kernel
theorem dX9_tickBy_6 : decode cX9_tickBy 6 = .ok (.iconst 0, 1) := by decide +kernel
theorem dX9_tickBy_7 : decode cX9_tickBy 7 = .ok (.istore_n 3, 1) := by decide +kernel
theorem dX9_tickBy_8 : decode cX9_tickBy 8 = .ok (.iload_n 3, 1) := by decide +kernel
theorem dX9_tickBy_9 : decode cX9_tickBy 9 = .ok (.iconst 3, 1) := by decide +kernel
theorem dX9_tickBy_10 : decode cX9_tickBy 10 = .ok (.if_icmp .ge 47, 3) := by decide +kernel
theorem dX9_tickBy_13 : decode cX9_tickBy 13 = .ok (.aload_n 0, 1) := by decide +kernel
theorem dX9_tickBy_14 : decode cX9_tickBy 14 = .ok (.getfield 35, 3) := by decide +kernel
theorem dX9_tickBy_17 : decode cX9_tickBy 17 = .ok (.iload_n 3, 1) := by decide +kernel
theorem dX9_tickBy_18 : decode cX9_tickBy 18 = .ok (.iload_n 2, 1) := by decide +kernel
theorem dX9_tickBy_19 : decode cX9_tickBy 19 = .ok (.iconst 2, 1) := by decide +kernel
theorem dX9_tickBy_20 : decode cX9_tickBy 20 = .ok (.iload_n 3, 1) := by decide +kernel
theorem dX9_tickBy_21 : decode cX9_tickBy 21 = .ok (.imul, 1) := by decide +kernel
theorem dX9_tickBy_22 : decode cX9_tickBy 22 = .ok (.invokestatic 70, 3) := by decide +kernel
theorem dX9_tickBy_25 : decode cX9_tickBy 25 = .ok (.iload_n 2, 1) := by decide +kernel
theorem dX9_tickBy_26 : decode cX9_tickBy 26 = .ok (.iconst 2, 1) := by decide +kernel
theorem dX9_tickBy_27 : decode cX9_tickBy 27 = .ok (.iload_n 3, 1) := by decide +kernel
theorem dX9_tickBy_28 : decode cX9_tickBy 28 = .ok (.imul, 1) := by decide +kernel
theorem dX9_tickBy_29 : decode cX9_tickBy 29 = .ok (.iconst 1, 1) := by decide +kernel
theorem dX9_tickBy_30 : decode cX9_tickBy 30 = .ok (.iadd, 1) := by decide +kernel
theorem dX9_tickBy_31 : decode cX9_tickBy 31 = .ok (.invokestatic 70, 3) := by decide +kernel
theorem dX9_tickBy_34 : decode cX9_tickBy 34 = .ok (.if_icmp .eq 15, 3) := by decide +kernel
theorem dX9_tickBy_37 : decode cX9_tickBy 37 = .ok (.aload_n 0, 1) := by decide +kernel
theorem dX9_tickBy_38 : decode cX9_tickBy 38 = .ok (.getfield 35, 3) := by decide +kernel
theorem dX9_tickBy_41 : decode cX9_tickBy 41 = .ok (.iload_n 3, 1) := by decide +kernel
theorem dX9_tickBy_42 : decode cX9_tickBy 42 = .ok (.iaload, 1) := by decide +kernel
theorem dX9_tickBy_43 : decode cX9_tickBy 43 = .ok (.invokestatic 93, 3) := by decide +kernel
theorem dX9_tickBy_46 : decode cX9_tickBy 46 = .ok (.goto 4, 3) := by decide +kernel
theorem dX9_tickBy_49 : decode cX9_tickBy 49 = .ok (.iconst 0, 1) := by decide +kernel
theorem dX9_tickBy_50 : decode cX9_tickBy 50 = .ok (.iastore, 1) := by decide +kernel
theorem dX9_tickBy_51 : decode cX9_tickBy 51 = .ok (.iinc 3 1, 3) := by decide +kernel
theorem dX9_tickBy_54 : decode cX9_tickBy 54 = .ok (.goto (-46), 3) := by decide +kernel
theorem dX9_tickBy_57 : decode cX9_tickBy 57 = .ok (.aload_n 0, 1) := by decide +kernel
theorem dX9_tickBy_58 : decode cX9_tickBy 58 = .ok (.aload_n 0, 1) := by decide +kernel
theorem dX9_tickBy_59 : decode cX9_tickBy 59 = .ok (.getfield 86, 3) := by decide +kernel
theorem dX9_tickBy_62 : decode cX9_tickBy 62 = .ok (.iload_n 2, 1) := by decide +kernel
theorem dX9_tickBy_63 : decode cX9_tickBy 63 = .ok (.bipush 6, 2) := by decide +kernel
theorem dX9_tickBy_65 : decode cX9_tickBy 65 = .ok (.invokestatic 70, 3) := by decide +kernel
theorem dX9_tickBy_68 : decode cX9_tickBy 68 = .ok (.iload_n 2, 1) := by decide +kernel
theorem dX9_tickBy_69 : decode cX9_tickBy 69 = .ok (.bipush 7, 2) := by decide +kernel
theorem dX9_tickBy_71 : decode cX9_tickBy 71 = .ok (.invokestatic 70, 3) := by decide +kernel
theorem dX9_tickBy_74 : decode cX9_tickBy 74 = .ok (.invokestatic 96, 3) := by decide +kernel
theorem dX9_tickBy_77 : decode cX9_tickBy 77 = .ok (.putfield 86, 3) := by decide +kernel
theorem dX9_tickBy_80 : decode cX9_tickBy 80 = .ok (.aload_n 0, 1) := by decide +kernel
theorem dX9_tickBy_81 : decode cX9_tickBy 81 = .ok (.aload_n 0, 1) := by decide +kernel
theorem dX9_tickBy_82 : decode cX9_tickBy 82 = .ok (.getfield 86, 3) := by decide +kernel
theorem dX9_tickBy_85 : decode cX9_tickBy 85 = .ok (.iconst 2, 1) := by decide +kernel
theorem dX9_tickBy_86 : decode cX9_tickBy 86 = .ok (.if_icmp .eq 11, 3) := by decide +kernel
theorem dX9_tickBy_89 : decode cX9_tickBy 89 = .ok (.aload_n 0, 1) := by decide +kernel
theorem dX9_tickBy_90 : decode cX9_tickBy 90 = .ok (.getfield 86, 3) := by decide +kernel
theorem dX9_tickBy_93 : decode cX9_tickBy 93 = .ok (.iconst 3, 1) := by decide +kernel
theorem dX9_tickBy_94 : decode cX9_tickBy 94 = .ok (.if_icmp .ne 12, 3) := by decide +kernel
theorem dX9_tickBy_97 : decode cX9_tickBy 97 = .ok (.aload_n 0, 1) := by decide +kernel
theorem dX9_tickBy_98 : decode cX9_tickBy 98 = .ok (.getfield 100, 3) := by decide +kernel
theorem dX9_tickBy_101 : decode cX9_tickBy 101 = .ok (.iconst 1, 1) := by decide +kernel
theorem dX9_tickBy_102 : decode cX9_tickBy 102 = .ok (.iadd, 1) := by decide +kernel
theorem dX9_tickBy_103 : decode cX9_tickBy 103 = .ok (.goto 4, 3) := by decide +kernel
theorem dX9_tickBy_106 : decode cX9_tickBy 106 = .ok (.iconst 0, 1) := by decide +kernel
theorem dX9_tickBy_107 : decode cX9_tickBy 107 = .ok (.putfield 100, 3) := by decide +kernel
theorem dX9_tickBy_110 : decode cX9_tickBy 110 = .ok (.aload_n 0, 1) := by decide +kernel
theorem dX9_tickBy_111 : decode cX9_tickBy 111 = .ok (.getfield 100, 3) := by decide +kernel
theorem dX9_tickBy_114 : decode cX9_tickBy 114 = .ok (.aload_n 0, 1) := by decide +kernel
theorem dX9_tickBy_115 : decode cX9_tickBy 115 = .ok (.getfield 16, 3) := by decide +kernel
theorem dX9_tickBy_118 : decode cX9_tickBy 118 = .ok (.if_icmp .le 13, 3) := by decide +kernel
theorem dX9_tickBy_121 : decode cX9_tickBy 121 = .ok (.aload_n 0, 1) := by decide +kernel
theorem dX9_tickBy_122 : decode cX9_tickBy 122 = .ok (.iconst 4, 1) := by decide +kernel
theorem dX9_tickBy_123 : decode cX9_tickBy 123 = .ok (.putfield 86, 3) := by decide +kernel
theorem dX9_tickBy_126 : decode cX9_tickBy 126 = .ok (.aload_n 0, 1) := by decide +kernel
theorem dX9_tickBy_127 : decode cX9_tickBy 127 = .ok (.iconst 0, 1) := by decide +kernel
theorem dX9_tickBy_128 : decode cX9_tickBy 128 = .ok (.putfield 100, 3) := by decide +kernel
theorem dX9_tickBy_131 : decode cX9_tickBy 131 = .ok (.aload_n 0, 1) := by decide +kernel
theorem dX9_tickBy_132 : decode cX9_tickBy 132 = .ok (.getfield 86, 3) := by decide +kernel
theorem dX9_tickBy_135 : decode cX9_tickBy 135 = .ok (.iconst 2, 1) := by decide +kernel
theorem dX9_tickBy_136 : decode cX9_tickBy 136 = .ok (.if_icmp .eq 11, 3) := by decide +kernel
theorem dX9_tickBy_139 : decode cX9_tickBy 139 = .ok (.aload_n 0, 1) := by decide +kernel
theorem dX9_tickBy_140 : decode cX9_tickBy 140 = .ok (.getfield 86, 3) := by decide +kernel
theorem dX9_tickBy_143 : decode cX9_tickBy 143 = .ok (.iconst 3, 1) := by decide +kernel
theorem dX9_tickBy_144 : decode cX9_tickBy 144 = .ok (.if_icmp .ne 7, 3) := by decide +kernel
theorem dX9_tickBy_147 : decode cX9_tickBy 147 = .ok (.iconst 1, 1) := by decide +kernel
theorem dX9_tickBy_148 : decode cX9_tickBy 148 = .ok (.goto 4, 3) := by decide +kernel
theorem dX9_tickBy_151 : decode cX9_tickBy 151 = .ok (.iconst 0, 1) := by decide +kernel
theorem dX9_tickBy_152 : decode cX9_tickBy 152 = .ok (.istore_n 3, 1) := by decide +kernel
theorem dX9_tickBy_153 : decode cX9_tickBy 153 = .ok (.aload_n 0, 1) := by decide +kernel
theorem dX9_tickBy_154 : decode cX9_tickBy 154 = .ok (.iload_n 2, 1) := by decide +kernel
theorem dX9_tickBy_155 : decode cX9_tickBy 155 = .ok (.iconst 0, 1) := by decide +kernel
theorem dX9_tickBy_156 : decode cX9_tickBy 156 = .ok (.invokestatic 103, 3) := by decide +kernel
theorem dX9_tickBy_159 : decode cX9_tickBy 159 = .ok (.ifCond .eq 7, 3) := by decide +kernel
theorem dX9_tickBy_162 : decode cX9_tickBy 162 = .ok (.iconst 1, 1) := by decide +kernel
theorem dX9_tickBy_163 : decode cX9_tickBy 163 = .ok (.goto 4, 3) := by decide +kernel
theorem dX9_tickBy_166 : decode cX9_tickBy 166 = .ok (.iconst 0, 1) := by decide +kernel
theorem dX9_tickBy_167 : decode cX9_tickBy 167 = .ok (.iload_n 2, 1) := by decide +kernel
theorem dX9_tickBy_168 : decode cX9_tickBy 168 = .ok (.iconst 1, 1) := by decide +kernel
theorem dX9_tickBy_169 : decode cX9_tickBy 169 = .ok (.invokestatic 103, 3) := by decide +kernel
theorem dX9_tickBy_172 : decode cX9_tickBy 172 = .ok (.ifCond .eq 7, 3) := by decide +kernel
theorem dX9_tickBy_175 : decode cX9_tickBy 175 = .ok (.iconst 1, 1) := by decide +kernel
theorem dX9_tickBy_176 : decode cX9_tickBy 176 = .ok (.goto 4, 3) := by decide +kernel
theorem dX9_tickBy_179 : decode cX9_tickBy 179 = .ok (.iconst 0, 1) := by decide +kernel
theorem dX9_tickBy_180 : decode cX9_tickBy 180 = .ok (.iadd, 1) := by decide +kernel
theorem dX9_tickBy_181 : decode cX9_tickBy 181 = .ok (.invokevirtual 107, 3) := by decide +kernel
theorem dX9_tickBy_184 : decode cX9_tickBy 184 = .ok (.istore 4, 2) := by decide +kernel
theorem dX9_tickBy_186 : decode cX9_tickBy 186 = .ok (.iload 4, 2) := by decide +kernel
theorem dX9_tickBy_188 : decode cX9_tickBy 188 = .ok (.iconst 2, 1) := by decide +kernel
theorem dX9_tickBy_189 : decode cX9_tickBy 189 = .ok (.if_icmp .ne 15, 3) := by decide +kernel
theorem dX9_tickBy_192 : decode cX9_tickBy 192 = .ok (.aload_n 0, 1) := by decide +kernel
theorem dX9_tickBy_193 : decode cX9_tickBy 193 = .ok (.getfield 74, 3) := by decide +kernel
theorem dX9_tickBy_196 : decode cX9_tickBy 196 = .ok (.iconst 2, 1) := by decide +kernel
theorem dX9_tickBy_197 : decode cX9_tickBy 197 = .ok (.if_icmp .eq 7, 3) := by decide +kernel
theorem dX9_tickBy_200 : decode cX9_tickBy 200 = .ok (.iconst 1, 1) := by decide +kernel
theorem dX9_tickBy_201 : decode cX9_tickBy 201 = .ok (.goto 4, 3) := by decide +kernel
theorem dX9_tickBy_204 : decode cX9_tickBy 204 = .ok (.iconst 0, 1) := by decide +kernel
theorem dX9_tickBy_205 : decode cX9_tickBy 205 = .ok (.istore 5, 2) := by decide +kernel
theorem dX9_tickBy_207 : decode cX9_tickBy 207 = .ok (.aload_n 0, 1) := by decide +kernel
theorem dX9_tickBy_208 : decode cX9_tickBy 208 = .ok (.iload 4, 2) := by decide +kernel
theorem dX9_tickBy_210 : decode cX9_tickBy 210 = .ok (.iconst 1, 1) := by decide +kernel
theorem dX9_tickBy_211 : decode cX9_tickBy 211 = .ok (.if_icmp .ne 24, 3) := by decide +kernel
theorem dX9_tickBy_214 : decode cX9_tickBy 214 = .ok (.aload_n 0, 1) := by decide +kernel
theorem dX9_tickBy_215 : decode cX9_tickBy 215 = .ok (.getfield 74, 3) := by decide +kernel
theorem dX9_tickBy_218 : decode cX9_tickBy 218 = .ok (.iconst 1, 1) := by decide +kernel
theorem dX9_tickBy_219 : decode cX9_tickBy 219 = .ok (.if_icmp .ne 12, 3) := by decide +kernel
theorem dX9_tickBy_222 : decode cX9_tickBy 222 = .ok (.aload_n 0, 1) := by decide +kernel
theorem dX9_tickBy_223 : decode cX9_tickBy 223 = .ok (.getfield 77, 3) := by decide +kernel
theorem dX9_tickBy_226 : decode cX9_tickBy 226 = .ok (.iconst 1, 1) := by decide +kernel
theorem dX9_tickBy_227 : decode cX9_tickBy 227 = .ok (.iadd, 1) := by decide +kernel
theorem dX9_tickBy_228 : decode cX9_tickBy 228 = .ok (.goto 8, 3) := by decide +kernel
theorem dX9_tickBy_231 : decode cX9_tickBy 231 = .ok (.iconst 1, 1) := by decide +kernel
theorem dX9_tickBy_232 : decode cX9_tickBy 232 = .ok (.goto 4, 3) := by decide +kernel
theorem dX9_tickBy_235 : decode cX9_tickBy 235 = .ok (.iconst 0, 1) := by decide +kernel
theorem dX9_tickBy_236 : decode cX9_tickBy 236 = .ok (.putfield 77, 3) := by decide +kernel
theorem dX9_tickBy_239 : decode cX9_tickBy 239 = .ok (.aload_n 0, 1) := by decide +kernel
theorem dX9_tickBy_240 : decode cX9_tickBy 240 = .ok (.iload 4, 2) := by decide +kernel
theorem dX9_tickBy_242 : decode cX9_tickBy 242 = .ok (.putfield 74, 3) := by decide +kernel
theorem dX9_tickBy_245 : decode cX9_tickBy 245 = .ok (.aload_n 0, 1) := by decide +kernel
theorem dX9_tickBy_246 : decode cX9_tickBy 246 = .ok (.aload_n 0, 1) := by decide +kernel
theorem dX9_tickBy_247 : decode cX9_tickBy 247 = .ok (.iconst 0, 1) := by decide +kernel
theorem dX9_tickBy_248 : decode cX9_tickBy 248 = .ok (.invokevirtual 110, 3) := by decide +kernel
theorem dX9_tickBy_251 : decode cX9_tickBy 251 = .ok (.aload_n 0, 1) := by decide +kernel
theorem dX9_tickBy_252 : decode cX9_tickBy 252 = .ok (.getfield 80, 3) := by decide +kernel
theorem dX9_tickBy_255 : decode cX9_tickBy 255 = .ok (.if_icmp .ne 15, 3) := by decide +kernel
theorem dX9_tickBy_258 : decode cX9_tickBy 258 = .ok (.aload_n 0, 1) := by decide +kernel
theorem dX9_tickBy_259 : decode cX9_tickBy 259 = .ok (.iconst 1, 1) := by decide +kernel
theorem dX9_tickBy_260 : decode cX9_tickBy 260 = .ok (.invokevirtual 110, 3) := by decide +kernel
theorem dX9_tickBy_263 : decode cX9_tickBy 263 = .ok (.aload_n 0, 1) := by decide +kernel
theorem dX9_tickBy_264 : decode cX9_tickBy 264 = .ok (.getfield 80, 3) := by decide +kernel
theorem dX9_tickBy_267 : decode cX9_tickBy 267 = .ok (.if_icmp .eq 13, 3) := by decide +kernel
theorem dX9_tickBy_270 : decode cX9_tickBy 270 = .ok (.aload_n 0, 1) := by decide +kernel
theorem dX9_tickBy_271 : decode cX9_tickBy 271 = .ok (.getfield 83, 3) := by decide +kernel
theorem dX9_tickBy_274 : decode cX9_tickBy 274 = .ok (.invokestatic 93, 3) := by decide +kernel
theorem dX9_tickBy_277 : decode cX9_tickBy 277 = .ok (.goto 4, 3) := by decide +kernel
theorem dX9_tickBy_280 : decode cX9_tickBy 280 = .ok (.iconst 0, 1) := by decide +kernel
theorem dX9_tickBy_281 : decode cX9_tickBy 281 = .ok (.putfield 83, 3) := by decide +kernel
theorem dX9_tickBy_284 : decode cX9_tickBy 284 = .ok (.iload_n 2, 1) := by decide +kernel
theorem dX9_tickBy_285 : decode cX9_tickBy 285 = .ok (.iconst 2, 1) := by decide +kernel
theorem dX9_tickBy_286 : decode cX9_tickBy 286 = .ok (.invokestatic 103, 3) := by decide +kernel
theorem dX9_tickBy_289 : decode cX9_tickBy 289 = .ok (.ifCond .ne 11, 3) := by decide +kernel
theorem dX9_tickBy_292 : decode cX9_tickBy 292 = .ok (.iload_n 3, 1) := by decide +kernel
theorem dX9_tickBy_293 : decode cX9_tickBy 293 = .ok (.ifCond .ne 7, 3) := by decide +kernel
theorem dX9_tickBy_296 : decode cX9_tickBy 296 = .ok (.iconst 1, 1) := by decide +kernel
theorem dX9_tickBy_297 : decode cX9_tickBy 297 = .ok (.goto 4, 3) := by decide +kernel
theorem dX9_tickBy_300 : decode cX9_tickBy 300 = .ok (.iconst 0, 1) := by decide +kernel
theorem dX9_tickBy_301 : decode cX9_tickBy 301 = .ok (.istore 6, 2) := by decide +kernel
theorem dX9_tickBy_303 : decode cX9_tickBy 303 = .ok (.aload_n 0, 1) := by decide +kernel
theorem dX9_tickBy_304 : decode cX9_tickBy 304 = .ok (.iload 5, 2) := by decide +kernel
theorem dX9_tickBy_306 : decode cX9_tickBy 306 = .ok (.iload 6, 2) := by decide +kernel
theorem dX9_tickBy_308 : decode cX9_tickBy 308 = .ok (.aload_n 0, 1) := by decide +kernel
theorem dX9_tickBy_309 : decode cX9_tickBy 309 = .ok (.getfield 113, 3) := by decide +kernel
theorem dX9_tickBy_312 : decode cX9_tickBy 312 = .ok (.iconst 1, 1) := by decide +kernel
theorem dX9_tickBy_313 : decode cX9_tickBy 313 = .ok (.if_icmp .ne 16, 3) := by decide +kernel
theorem dX9_tickBy_316 : decode cX9_tickBy 316 = .ok (.iload_n 2, 1) := by decide +kernel
theorem dX9_tickBy_317 : decode cX9_tickBy 317 = .ok (.bipush 8, 2) := by decide +kernel
theorem dX9_tickBy_319 : decode cX9_tickBy 319 = .ok (.invokestatic 70, 3) := by decide +kernel
theorem dX9_tickBy_322 : decode cX9_tickBy 322 = .ok (.ifCond .ne 7, 3) := by decide +kernel
theorem dX9_tickBy_325 : decode cX9_tickBy 325 = .ok (.iconst 1, 1) := by decide +kernel
theorem dX9_tickBy_326 : decode cX9_tickBy 326 = .ok (.goto 4, 3) := by decide +kernel
theorem dX9_tickBy_329 : decode cX9_tickBy 329 = .ok (.iconst 0, 1) := by decide +kernel
theorem dX9_tickBy_330 : decode cX9_tickBy 330 = .ok (.invokevirtual 116, 3) := by decide +kernel
theorem dX9_tickBy_333 : decode cX9_tickBy 333 = .ok (.aload_n 0, 1) := by decide +kernel
theorem dX9_tickBy_334 : decode cX9_tickBy 334 = .ok (.iload_n 2, 1) := by decide +kernel
theorem dX9_tickBy_335 : decode cX9_tickBy 335 = .ok (.bipush 8, 2) := by decide +kernel
theorem dX9_tickBy_337 : decode cX9_tickBy 337 = .ok (.invokestatic 70, 3) := by decide +kernel
theorem dX9_tickBy_340 : decode cX9_tickBy 340 = .ok (.putfield 113, 3) := by decide +kernel
theorem dX9_tickBy_343 : decode cX9_tickBy 343 = .ok (.aload_n 0, 1) := by decide +kernel
theorem dX9_tickBy_344 : decode cX9_tickBy 344 = .ok (.aload_n 0, 1) := by decide +kernel
theorem dX9_tickBy_345 : decode cX9_tickBy 345 = .ok (.getfield 32, 3) := by decide +kernel
theorem dX9_tickBy_348 : decode cX9_tickBy 348 = .ok (.iconst 2, 1) := by decide +kernel
theorem dX9_tickBy_349 : decode cX9_tickBy 349 = .ok (.if_icmp .eq 11, 3) := by decide +kernel
theorem dX9_tickBy_352 : decode cX9_tickBy 352 = .ok (.aload_n 0, 1) := by decide +kernel
theorem dX9_tickBy_353 : decode cX9_tickBy 353 = .ok (.getfield 32, 3) := by decide +kernel
theorem dX9_tickBy_356 : decode cX9_tickBy 356 = .ok (.iconst 4, 1) := by decide +kernel
theorem dX9_tickBy_357 : decode cX9_tickBy 357 = .ok (.if_icmp .ne 7, 3) := by decide +kernel
theorem dX9_tickBy_360 : decode cX9_tickBy 360 = .ok (.iconst 1, 1) := by decide +kernel
theorem dX9_tickBy_361 : decode cX9_tickBy 361 = .ok (.goto 4, 3) := by decide +kernel
theorem dX9_tickBy_364 : decode cX9_tickBy 364 = .ok (.iconst 0, 1) := by decide +kernel
theorem dX9_tickBy_365 : decode cX9_tickBy 365 = .ok (.putfield 80, 3) := by decide +kernel
theorem dX9_tickBy_368 : decode cX9_tickBy 368 = .ok (.aload_n 0, 1) := by decide +kernel
theorem dX9_tickBy_369 : decode cX9_tickBy 369 = .ok (.iload_n 1, 1) := by decide +kernel
theorem dX9_tickBy_370 : decode cX9_tickBy 370 = .ok (.iload_n 3, 1) := by decide +kernel
theorem dX9_tickBy_371 : decode cX9_tickBy 371 = .ok (.invokevirtual 120, 3) := by decide +kernel
theorem dX9_tickBy_374 : decode cX9_tickBy 374 = .ok (.return_, 1) := by decide +kernel
set_option maxRecDepth 20000 in
theorem ggX9_goesOn_X9_leastCause : GoodIn wsX9_goesOn wsX9_leastCause := goodIn_r _ [12, 13, 14, 15, 16, 17, 18, 19, 20, 21, 22, 23, 24, 25, 26, 27, 28, 29, 30, 31, 32, 33, 34, 35, 36, 37, 38, 39, 40, 41, 42, 43, 44, 45, 46, 47, 48, 49, 50, 51, 52, 53, 54, 55, 56] (by decide +kernel) (by decide +kernel)
set_option maxRecDepth 20000 in
theorem gX9_goesOn_X9_leastCause : GoodIn wsX9_goesOn (wsV RX9 124 RX9 yX9_leastCause wsX9_leastCause) := goodIn_app (goodIn_of _ (by decide +kernel)) ggX9_goesOn_X9_leastCause
theorem dX9_goesOn_0 : decode cX9_goesOn 0 = .ok (.aload_n 0, 1) := by decide +kernel
theorem dX9_goesOn_1 : decode cX9_goesOn 1 = .ok (.aload_n 0, 1) := by decide +kernel
theorem dX9_goesOn_2 : decode cX9_goesOn 2 = .ok (.getfield 32, 3) := by decide +kernel
theorem dX9_goesOn_5 : decode cX9_goesOn 5 = .ok (.invokevirtual 124, 3) := by decide +kernel
theorem dX9_goesOn_8 : decode cX9_goesOn 8 = .ok (.istore 4, 2) := by decide +kernel
theorem dX9_goesOn_10 : decode cX9_goesOn 10 = .ok (.aload_n 0, 1) := by decide +kernel
theorem dX9_goesOn_11 : decode cX9_goesOn 11 = .ok (.bipush (-9), 2) := by decide +kernel
theorem dX9_goesOn_13 : decode cX9_goesOn 13 = .ok (.putfield 127, 3) := by decide +kernel
theorem dX9_goesOn_16 : decode cX9_goesOn 16 = .ok (.iload 4, 2) := by decide +kernel
theorem dX9_goesOn_18 : decode cX9_goesOn 18 = .ok (.bipush (-9), 2) := by decide +kernel
theorem dX9_goesOn_20 : decode cX9_goesOn 20 = .ok (.if_icmp .eq 36, 3) := by decide +kernel
theorem dX9_goesOn_23 : decode cX9_goesOn 23 = .ok (.aload_n 0, 1) := by decide +kernel
theorem dX9_goesOn_24 : decode cX9_goesOn 24 = .ok (.getfield 32, 3) := by decide +kernel
theorem dX9_goesOn_27 : decode cX9_goesOn 27 = .ok (.ifCond .eq 29, 3) := by decide +kernel
theorem dX9_goesOn_30 : decode cX9_goesOn 30 = .ok (.aload_n 0, 1) := by decide +kernel
theorem dX9_goesOn_31 : decode cX9_goesOn 31 = .ok (.iconst 0, 1) := by decide +kernel
theorem dX9_goesOn_32 : decode cX9_goesOn 32 = .ok (.putfield 32, 3) := by decide +kernel
theorem dX9_goesOn_35 : decode cX9_goesOn 35 = .ok (.aload_n 0, 1) := by decide +kernel
theorem dX9_goesOn_36 : decode cX9_goesOn 36 = .ok (.iload 4, 2) := by decide +kernel
theorem dX9_goesOn_38 : decode cX9_goesOn 38 = .ok (.putfield 38, 3) := by decide +kernel
theorem dX9_goesOn_41 : decode cX9_goesOn 41 = .ok (.aload_n 0, 1) := by decide +kernel
theorem dX9_goesOn_42 : decode cX9_goesOn 42 = .ok (.iload 4, 2) := by decide +kernel
theorem dX9_goesOn_44 : decode cX9_goesOn 44 = .ok (.putfield 127, 3) := by decide +kernel
theorem dX9_goesOn_47 : decode cX9_goesOn 47 = .ok (.aload_n 0, 1) := by decide +kernel
theorem dX9_goesOn_48 : decode cX9_goesOn 48 = .ok (.aload_n 0, 1) := by decide +kernel
theorem dX9_goesOn_49 : decode cX9_goesOn 49 = .ok (.getfield 130, 3) := by decide +kernel
theorem dX9_goesOn_52 : decode cX9_goesOn 52 = .ok (.putfield 133, 3) := by decide +kernel
theorem dX9_goesOn_55 : decode cX9_goesOn 55 = .ok (.return_, 1) := by decide +kernel
theorem dX9_goesOn_56 : decode cX9_goesOn 56 = .ok (.aload_n 0, 1) := by decide +kernel
theorem dX9_goesOn_57 : decode cX9_goesOn 57 = .ok (.getfield 32, 3) := by decide +kernel
theorem dX9_goesOn_60 : decode cX9_goesOn 60 = .ok (.tableswitch 154 0 3 #[32, 79, 99, 123], 32) := by decide +kernel
theorem dX9_goesOn_92 : decode cX9_goesOn 92 = .ok (.iload_n 3, 1) := by decide +kernel
theorem dX9_goesOn_93 : decode cX9_goesOn 93 = .ok (.ifCond .eq 121, 3) := by decide +kernel
theorem dX9_goesOn_96 : decode cX9_goesOn 96 = .ok (.iload 4, 2) := by decide +kernel
theorem dX9_goesOn_98 : decode cX9_goesOn 98 = .ok (.bipush (-9), 2) := by decide +kernel
theorem dX9_goesOn_100 : decode cX9_goesOn 100 = .ok (.if_icmp .ne 114, 3) := by decide +kernel
theorem dX9_goesOn_103 : decode cX9_goesOn 103 = .ok (.aload_n 0, 1) := by decide +kernel
theorem dX9_goesOn_104 : decode cX9_goesOn 104 = .ok (.getfield 74, 3) := by decide +kernel
theorem dX9_goesOn_107 : decode cX9_goesOn 107 = .ok (.ifCond .ne 107, 3) := by decide +kernel
theorem dX9_goesOn_110 : decode cX9_goesOn 110 = .ok (.iload_n 2, 1) := by decide +kernel
theorem dX9_goesOn_111 : decode cX9_goesOn 111 = .ok (.ifCond .ne 103, 3) := by decide +kernel
theorem dX9_goesOn_114 : decode cX9_goesOn 114 = .ok (.aload_n 0, 1) := by decide +kernel
theorem dX9_goesOn_115 : decode cX9_goesOn 115 = .ok (.aload_n 0, 1) := by decide +kernel
theorem dX9_goesOn_116 : decode cX9_goesOn 116 = .ok (.getfield 130, 3) := by decide +kernel
theorem dX9_goesOn_119 : decode cX9_goesOn 119 = .ok (.ifCond .ne 7, 3) := by decide +kernel
theorem dX9_goesOn_122 : decode cX9_goesOn 122 = .ok (.iconst 1, 1) := by decide +kernel
theorem dX9_goesOn_123 : decode cX9_goesOn 123 = .ok (.goto 4, 3) := by decide +kernel
theorem dX9_goesOn_126 : decode cX9_goesOn 126 = .ok (.iconst 3, 1) := by decide +kernel
theorem dX9_goesOn_127 : decode cX9_goesOn 127 = .ok (.putfield 32, 3) := by decide +kernel
theorem dX9_goesOn_130 : decode cX9_goesOn 130 = .ok (.aload_n 0, 1) := by decide +kernel
theorem dX9_goesOn_131 : decode cX9_goesOn 131 = .ok (.bipush (-9), 2) := by decide +kernel
theorem dX9_goesOn_133 : decode cX9_goesOn 133 = .ok (.putfield 38, 3) := by decide +kernel
theorem dX9_goesOn_136 : decode cX9_goesOn 136 = .ok (.goto 78, 3) := by decide +kernel
theorem dX9_goesOn_139 : decode cX9_goesOn 139 = .ok (.aload_n 0, 1) := by decide +kernel
theorem dX9_goesOn_140 : decode cX9_goesOn 140 = .ok (.iload_n 1, 1) := by decide +kernel
theorem dX9_goesOn_141 : decode cX9_goesOn 141 = .ok (.ifCond .eq 11, 3) := by decide +kernel
theorem dX9_goesOn_144 : decode cX9_goesOn 144 = .ok (.iload_n 2, 1) := by decide +kernel
theorem dX9_goesOn_145 : decode cX9_goesOn 145 = .ok (.ifCond .ne 7, 3) := by decide +kernel
theorem dX9_goesOn_148 : decode cX9_goesOn 148 = .ok (.iconst 2, 1) := by decide +kernel
theorem dX9_goesOn_149 : decode cX9_goesOn 149 = .ok (.goto 4, 3) := by decide +kernel
theorem dX9_goesOn_152 : decode cX9_goesOn 152 = .ok (.iconst 1, 1) := by decide +kernel
theorem dX9_goesOn_153 : decode cX9_goesOn 153 = .ok (.putfield 32, 3) := by decide +kernel
theorem dX9_goesOn_156 : decode cX9_goesOn 156 = .ok (.goto 58, 3) := by decide +kernel
theorem dX9_goesOn_159 : decode cX9_goesOn 159 = .ok (.aload_n 0, 1) := by decide +kernel
theorem dX9_goesOn_160 : decode cX9_goesOn 160 = .ok (.iload_n 2, 1) := by decide +kernel
theorem dX9_goesOn_161 : decode cX9_goesOn 161 = .ok (.ifCond .ne 11, 3) := by decide +kernel
theorem dX9_goesOn_164 : decode cX9_goesOn 164 = .ok (.aload_n 0, 1) := by decide +kernel
theorem dX9_goesOn_165 : decode cX9_goesOn 165 = .ok (.getfield 74, 3) := by decide +kernel
theorem dX9_goesOn_168 : decode cX9_goesOn 168 = .ok (.iconst 2, 1) := by decide +kernel
theorem dX9_goesOn_169 : decode cX9_goesOn 169 = .ok (.if_icmp .eq 7, 3) := by decide +kernel
theorem dX9_goesOn_172 : decode cX9_goesOn 172 = .ok (.iconst 3, 1) := by decide +kernel
theorem dX9_goesOn_173 : decode cX9_goesOn 173 = .ok (.goto 4, 3) := by decide +kernel
theorem dX9_goesOn_176 : decode cX9_goesOn 176 = .ok (.iconst 2, 1) := by decide +kernel
theorem dX9_goesOn_177 : decode cX9_goesOn 177 = .ok (.putfield 32, 3) := by decide +kernel
theorem dX9_goesOn_180 : decode cX9_goesOn 180 = .ok (.goto 34, 3) := by decide +kernel
theorem dX9_goesOn_183 : decode cX9_goesOn 183 = .ok (.iload_n 1, 1) := by decide +kernel
theorem dX9_goesOn_184 : decode cX9_goesOn 184 = .ok (.ifCond .eq 30, 3) := by decide +kernel
theorem dX9_goesOn_187 : decode cX9_goesOn 187 = .ok (.iload_n 2, 1) := by decide +kernel
theorem dX9_goesOn_188 : decode cX9_goesOn 188 = .ok (.ifCond .ne 26, 3) := by decide +kernel
theorem dX9_goesOn_191 : decode cX9_goesOn 191 = .ok (.aload_n 0, 1) := by decide +kernel
theorem dX9_goesOn_192 : decode cX9_goesOn 192 = .ok (.aload_n 0, 1) := by decide +kernel
theorem dX9_goesOn_193 : decode cX9_goesOn 193 = .ok (.getfield 130, 3) := by decide +kernel
theorem dX9_goesOn_196 : decode cX9_goesOn 196 = .ok (.aload_n 0, 1) := by decide +kernel
theorem dX9_goesOn_197 : decode cX9_goesOn 197 = .ok (.getfield 22, 3) := by decide +kernel
theorem dX9_goesOn_200 : decode cX9_goesOn 200 = .ok (.if_icmp .ge 7, 3) := by decide +kernel
theorem dX9_goesOn_203 : decode cX9_goesOn 203 = .ok (.iconst 2, 1) := by decide +kernel
theorem dX9_goesOn_204 : decode cX9_goesOn 204 = .ok (.goto 4, 3) := by decide +kernel
theorem dX9_goesOn_207 : decode cX9_goesOn 207 = .ok (.iconst 4, 1) := by decide +kernel
theorem dX9_goesOn_208 : decode cX9_goesOn 208 = .ok (.putfield 32, 3) := by decide +kernel
theorem dX9_goesOn_211 : decode cX9_goesOn 211 = .ok (.goto 3, 3) := by decide +kernel
theorem dX9_goesOn_214 : decode cX9_goesOn 214 = .ok (.return_, 1) := by decide +kernel
set_option maxRecDepth 20000 in
theorem ggX9_slides_X9_valveAt : GoodIn wsX9_slides wsX9_valveAt := goodIn_r _ [12, 13, 14, 15, 16, 17, 18, 19, 20, 21, 22, 23, 24, 25, 26, 27, 28, 29, 30, 31, 32, 33, 34, 35, 36, 37, 38, 39, 40, 41, 42, 43, 44, 45, 46, 47, 48, 49, 50, 51, 52, 53, 54] (by decide +kernel) (by decide +kernel)
set_option maxRecDepth 20000 in
theorem gX9_slides_X9_valveAt : GoodIn wsX9_slides (wsV RX9 110 RX9 yX9_valveAt wsX9_valveAt) := goodIn_app (goodIn_of _ (by decide +kernel)) ggX9_slides_X9_valveAt
theorem dX9_slides_0 : decode cX9_slides 0 = .ok (.aload_n 0, 1) := by decide +kernel
theorem dX9_slides_1 : decode cX9_slides 1 = .ok (.iconst 0, 1) := by decide +kernel
theorem dX9_slides_2 : decode cX9_slides 2 = .ok (.putfield 136, 3) := by decide +kernel
theorem dX9_slides_5 : decode cX9_slides 5 = .ok (.aload_n 0, 1) := by decide +kernel
theorem dX9_slides_6 : decode cX9_slides 6 = .ok (.iconst 0, 1) := by decide +kernel
theorem dX9_slides_7 : decode cX9_slides 7 = .ok (.putfield 139, 3) := by decide +kernel
theorem dX9_slides_10 : decode cX9_slides 10 = .ok (.aload_n 0, 1) := by decide +kernel
theorem dX9_slides_11 : decode cX9_slides 11 = .ok (.iconst 0, 1) := by decide +kernel
theorem dX9_slides_12 : decode cX9_slides 12 = .ok (.invokevirtual 110, 3) := by decide +kernel
theorem dX9_slides_15 : decode cX9_slides 15 = .ok (.iconst 1, 1) := by decide +kernel
theorem dX9_slides_16 : decode cX9_slides 16 = .ok (.if_icmp .ne 23, 3) := by decide +kernel
theorem dX9_slides_19 : decode cX9_slides 19 = .ok (.aload_n 0, 1) := by decide +kernel
theorem dX9_slides_20 : decode cX9_slides 20 = .ok (.iconst 1, 1) := by decide +kernel
theorem dX9_slides_21 : decode cX9_slides 21 = .ok (.invokevirtual 110, 3) := by decide +kernel
theorem dX9_slides_24 : decode cX9_slides 24 = .ok (.iconst 1, 1) := by decide +kernel
theorem dX9_slides_25 : decode cX9_slides 25 = .ok (.if_icmp .ne 14, 3) := by decide +kernel
theorem dX9_slides_28 : decode cX9_slides 28 = .ok (.aload_n 0, 1) := by decide +kernel
theorem dX9_slides_29 : decode cX9_slides 29 = .ok (.aload_n 0, 1) := by decide +kernel
theorem dX9_slides_30 : decode cX9_slides 30 = .ok (.getfield 19, 3) := by decide +kernel
theorem dX9_slides_33 : decode cX9_slides 33 = .ok (.putfield 142, 3) := by decide +kernel
theorem dX9_slides_36 : decode cX9_slides 36 = .ok (.goto 24, 3) := by decide +kernel
theorem dX9_slides_39 : decode cX9_slides 39 = .ok (.aload_n 0, 1) := by decide +kernel
theorem dX9_slides_40 : decode cX9_slides 40 = .ok (.getfield 142, 3) := by decide +kernel
theorem dX9_slides_43 : decode cX9_slides 43 = .ok (.ifCond .le 16, 3) := by decide +kernel
theorem dX9_slides_46 : decode cX9_slides 46 = .ok (.aload_n 0, 1) := by decide +kernel
theorem dX9_slides_47 : decode cX9_slides 47 = .ok (.dup, 1) := by decide +kernel
theorem dX9_slides_48 : decode cX9_slides 48 = .ok (.getfield 142, 3) := by decide +kernel
theorem dX9_slides_51 : decode cX9_slides 51 = .ok (.iconst 1, 1) := by decide +kernel
theorem dX9_slides_52 : decode cX9_slides 52 = .ok (.isub, 1) := by decide +kernel
theorem dX9_slides_53 : decode cX9_slides 53 = .ok (.putfield 142, 3) := by decide +kernel
theorem dX9_slides_56 : decode cX9_slides 56 = .ok (.goto 4, 3) := by decide +kernel
theorem dX9_slides_59 : decode cX9_slides 59 = .ok (.return_, 1) := by decide +kernel
theorem dX9_slides_60 : decode cX9_slides 60 = .ok (.aload_n 0, 1) := by decide +kernel
theorem dX9_slides_61 : decode cX9_slides 61 = .ok (.aload_n 0, 1) := by decide +kernel
theorem dX9_slides_62 : decode cX9_slides 62 = .ok (.getfield 130, 3) := by decide +kernel
theorem dX9_slides_65 : decode cX9_slides 65 = .ok (.aload_n 0, 1) := by decide +kernel
theorem dX9_slides_66 : decode cX9_slides 66 = .ok (.getfield 22, 3) := by decide +kernel
theorem dX9_slides_69 : decode cX9_slides 69 = .ok (.if_icmp .ge 20, 3) := by decide +kernel
theorem dX9_slides_72 : decode cX9_slides 72 = .ok (.iload_n 1, 1) := by decide +kernel
theorem dX9_slides_73 : decode cX9_slides 73 = .ok (.iconst 4, 1) := by decide +kernel
theorem dX9_slides_74 : decode cX9_slides 74 = .ok (.ishr, 1) := by decide +kernel
theorem dX9_slides_75 : decode cX9_slides 75 = .ok (.iconst 3, 1) := by decide +kernel
theorem dX9_slides_76 : decode cX9_slides 76 = .ok (.iand, 1) := by decide +kernel
theorem dX9_slides_77 : decode cX9_slides 77 = .ok (.iconst 3, 1) := by decide +kernel
theorem dX9_slides_78 : decode cX9_slides 78 = .ok (.if_icmp .eq 11, 3) := by decide +kernel
theorem dX9_slides_81 : decode cX9_slides 81 = .ok (.iload_n 2, 1) := by decide +kernel
theorem dX9_slides_82 : decode cX9_slides 82 = .ok (.ifCond .ne 7, 3) := by decide +kernel
theorem dX9_slides_85 : decode cX9_slides 85 = .ok (.iconst 1, 1) := by decide +kernel
theorem dX9_slides_86 : decode cX9_slides 86 = .ok (.goto 4, 3) := by decide +kernel
theorem dX9_slides_89 : decode cX9_slides 89 = .ok (.iconst 0, 1) := by decide +kernel
theorem dX9_slides_90 : decode cX9_slides 90 = .ok (.putfield 136, 3) := by decide +kernel
theorem dX9_slides_93 : decode cX9_slides 93 = .ok (.aload_n 0, 1) := by decide +kernel
theorem dX9_slides_94 : decode cX9_slides 94 = .ok (.aload_n 0, 1) := by decide +kernel
theorem dX9_slides_95 : decode cX9_slides 95 = .ok (.getfield 130, 3) := by decide +kernel
theorem dX9_slides_98 : decode cX9_slides 98 = .ok (.iconst 1, 1) := by decide +kernel
theorem dX9_slides_99 : decode cX9_slides 99 = .ok (.iadd, 1) := by decide +kernel
theorem dX9_slides_100 : decode cX9_slides 100 = .ok (.iconst 2, 1) := by decide +kernel
theorem dX9_slides_101 : decode cX9_slides 101 = .ok (.aload_n 0, 1) := by decide +kernel
theorem dX9_slides_102 : decode cX9_slides 102 = .ok (.getfield 22, 3) := by decide +kernel
theorem dX9_slides_105 : decode cX9_slides 105 = .ok (.imul, 1) := by decide +kernel
theorem dX9_slides_106 : decode cX9_slides 106 = .ok (.if_icmp .ne 7, 3) := by decide +kernel
theorem dX9_slides_109 : decode cX9_slides 109 = .ok (.iconst 0, 1) := by decide +kernel
theorem dX9_slides_110 : decode cX9_slides 110 = .ok (.goto 9, 3) := by decide +kernel
theorem dX9_slides_113 : decode cX9_slides 113 = .ok (.aload_n 0, 1) := by decide +kernel
theorem dX9_slides_114 : decode cX9_slides 114 = .ok (.getfield 130, 3) := by decide +kernel
theorem dX9_slides_117 : decode cX9_slides 117 = .ok (.iconst 1, 1) := by decide +kernel
theorem dX9_slides_118 : decode cX9_slides 118 = .ok (.iadd, 1) := by decide +kernel
theorem dX9_slides_119 : decode cX9_slides 119 = .ok (.putfield 130, 3) := by decide +kernel
theorem dX9_slides_122 : decode cX9_slides 122 = .ok (.aload_n 0, 1) := by decide +kernel
theorem dX9_slides_123 : decode cX9_slides 123 = .ok (.getfield 130, 3) := by decide +kernel
theorem dX9_slides_126 : decode cX9_slides 126 = .ok (.aload_n 0, 1) := by decide +kernel
theorem dX9_slides_127 : decode cX9_slides 127 = .ok (.getfield 22, 3) := by decide +kernel
theorem dX9_slides_130 : decode cX9_slides 130 = .ok (.if_icmp .ne 16, 3) := by decide +kernel
theorem dX9_slides_133 : decode cX9_slides 133 = .ok (.aload_n 0, 1) := by decide +kernel
theorem dX9_slides_134 : decode cX9_slides 134 = .ok (.getfield 32, 3) := by decide +kernel
theorem dX9_slides_137 : decode cX9_slides 137 = .ok (.iconst 2, 1) := by decide +kernel
theorem dX9_slides_138 : decode cX9_slides 138 = .ok (.if_icmp .ne 8, 3) := by decide +kernel
theorem dX9_slides_141 : decode cX9_slides 141 = .ok (.aload_n 0, 1) := by decide +kernel
theorem dX9_slides_142 : decode cX9_slides 142 = .ok (.iconst 4, 1) := by decide +kernel
theorem dX9_slides_143 : decode cX9_slides 143 = .ok (.putfield 32, 3) := by decide +kernel
theorem dX9_slides_146 : decode cX9_slides 146 = .ok (.aload_n 0, 1) := by decide +kernel
theorem dX9_slides_147 : decode cX9_slides 147 = .ok (.getfield 130, 3) := by decide +kernel
theorem dX9_slides_150 : decode cX9_slides 150 = .ok (.ifCond .ne 41, 3) := by decide +kernel
theorem dX9_slides_153 : decode cX9_slides 153 = .ok (.aload_n 0, 1) := by decide +kernel
theorem dX9_slides_154 : decode cX9_slides 154 = .ok (.iconst 0, 1) := by decide +kernel
theorem dX9_slides_155 : decode cX9_slides 155 = .ok (.putfield 142, 3) := by decide +kernel
theorem dX9_slides_158 : decode cX9_slides 158 = .ok (.aload_n 0, 1) := by decide +kernel
theorem dX9_slides_159 : decode cX9_slides 159 = .ok (.iconst 1, 1) := by decide +kernel
theorem dX9_slides_160 : decode cX9_slides 160 = .ok (.putfield 139, 3) := by decide +kernel
theorem dX9_slides_163 : decode cX9_slides 163 = .ok (.aload_n 0, 1) := by decide +kernel
theorem dX9_slides_164 : decode cX9_slides 164 = .ok (.aload_n 0, 1) := by decide +kernel
theorem dX9_slides_165 : decode cX9_slides 165 = .ok (.getfield 32, 3) := by decide +kernel
theorem dX9_slides_168 : decode cX9_slides 168 = .ok (.iconst 4, 1) := by decide +kernel
theorem dX9_slides_169 : decode cX9_slides 169 = .ok (.if_icmp .eq 11, 3) := by decide +kernel
theorem dX9_slides_172 : decode cX9_slides 172 = .ok (.aload_n 0, 1) := by decide +kernel
theorem dX9_slides_173 : decode cX9_slides 173 = .ok (.getfield 32, 3) := by decide +kernel
theorem dX9_slides_176 : decode cX9_slides 176 = .ok (.iconst 3, 1) := by decide +kernel
theorem dX9_slides_177 : decode cX9_slides 177 = .ok (.if_icmp .ne 7, 3) := by decide +kernel
theorem dX9_slides_180 : decode cX9_slides 180 = .ok (.iconst 1, 1) := by decide +kernel
theorem dX9_slides_181 : decode cX9_slides 181 = .ok (.goto 7, 3) := by decide +kernel
theorem dX9_slides_184 : decode cX9_slides 184 = .ok (.aload_n 0, 1) := by decide +kernel
theorem dX9_slides_185 : decode cX9_slides 185 = .ok (.getfield 32, 3) := by decide +kernel
theorem dX9_slides_188 : decode cX9_slides 188 = .ok (.putfield 32, 3) := by decide +kernel
theorem dX9_slides_191 : decode cX9_slides 191 = .ok (.return_, 1) := by decide +kernel
theorem dX9_stateOf_0 : decode cX9_stateOf 0 = .ok (.aload_n 0, 1) := by decide +kernel
theorem dX9_stateOf_1 : decode cX9_stateOf 1 = .ok (.getfield 32, 3) := by decide +kernel
theorem dX9_stateOf_4 : decode cX9_stateOf 4 = .ok (.i2l, 1) := by decide +kernel
theorem dX9_stateOf_5 : decode cX9_stateOf 5 = .ok (.lstore_n 1, 1) := by decide +kernel
theorem dX9_stateOf_6 : decode cX9_stateOf 6 = .ok (.ldc2_w 145, 3) := by decide +kernel
theorem dX9_stateOf_9 : decode cX9_stateOf 9 = .ok (.lload_n 1, 1) := by decide +kernel
theorem dX9_stateOf_10 : decode cX9_stateOf 10 = .ok (.lmul, 1) := by decide +kernel
theorem dX9_stateOf_11 : decode cX9_stateOf 11 = .ok (.aload_n 0, 1) := by decide +kernel
theorem dX9_stateOf_12 : decode cX9_stateOf 12 = .ok (.getfield 74, 3) := by decide +kernel
theorem dX9_stateOf_15 : decode cX9_stateOf 15 = .ok (.i2l, 1) := by decide +kernel
theorem dX9_stateOf_16 : decode cX9_stateOf 16 = .ok (.ladd, 1) := by decide +kernel
theorem dX9_stateOf_17 : decode cX9_stateOf 17 = .ok (.lstore_n 1, 1) := by decide +kernel
theorem dX9_stateOf_18 : decode cX9_stateOf 18 = .ok (.ldc2_w 147, 3) := by decide +kernel
theorem dX9_stateOf_21 : decode cX9_stateOf 21 = .ok (.lload_n 1, 1) := by decide +kernel
theorem dX9_stateOf_22 : decode cX9_stateOf 22 = .ok (.lmul, 1) := by decide +kernel
theorem dX9_stateOf_23 : decode cX9_stateOf 23 = .ok (.aload_n 0, 1) := by decide +kernel
theorem dX9_stateOf_24 : decode cX9_stateOf 24 = .ok (.getfield 77, 3) := by decide +kernel
theorem dX9_stateOf_27 : decode cX9_stateOf 27 = .ok (.i2l, 1) := by decide +kernel
theorem dX9_stateOf_28 : decode cX9_stateOf 28 = .ok (.ladd, 1) := by decide +kernel
theorem dX9_stateOf_29 : decode cX9_stateOf 29 = .ok (.lstore_n 1, 1) := by decide +kernel
theorem dX9_stateOf_30 : decode cX9_stateOf 30 = .ok (.ldc2_w 149, 3) := by decide +kernel
theorem dX9_stateOf_33 : decode cX9_stateOf 33 = .ok (.lload_n 1, 1) := by decide +kernel
theorem dX9_stateOf_34 : decode cX9_stateOf 34 = .ok (.lmul, 1) := by decide +kernel
theorem dX9_stateOf_35 : decode cX9_stateOf 35 = .ok (.aload_n 0, 1) := by decide +kernel
theorem dX9_stateOf_36 : decode cX9_stateOf 36 = .ok (.getfield 86, 3) := by decide +kernel
theorem dX9_stateOf_39 : decode cX9_stateOf 39 = .ok (.i2l, 1) := by decide +kernel
theorem dX9_stateOf_40 : decode cX9_stateOf 40 = .ok (.ladd, 1) := by decide +kernel
theorem dX9_stateOf_41 : decode cX9_stateOf 41 = .ok (.lstore_n 1, 1) := by decide +kernel
theorem dX9_stateOf_42 : decode cX9_stateOf 42 = .ok (.ldc2_w 151, 3) := by decide +kernel
theorem dX9_stateOf_45 : decode cX9_stateOf 45 = .ok (.lload_n 1, 1) := by decide +kernel
theorem dX9_stateOf_46 : decode cX9_stateOf 46 = .ok (.lmul, 1) := by decide +kernel
theorem dX9_stateOf_47 : decode cX9_stateOf 47 = .ok (.aload_n 0, 1) := by decide +kernel
theorem dX9_stateOf_48 : decode cX9_stateOf 48 = .ok (.getfield 100, 3) := by decide +kernel
theorem dX9_stateOf_51 : decode cX9_stateOf 51 = .ok (.i2l, 1) := by decide +kernel
theorem dX9_stateOf_52 : decode cX9_stateOf 52 = .ok (.ladd, 1) := by decide +kernel
theorem dX9_stateOf_53 : decode cX9_stateOf 53 = .ok (.lstore_n 1, 1) := by decide +kernel
theorem dX9_stateOf_54 : decode cX9_stateOf 54 = .ok (.iconst 0, 1) := by decide +kernel
theorem dX9_stateOf_55 : decode cX9_stateOf 55 = .ok (.istore_n 3, 1) := by decide +kernel
theorem dX9_stateOf_56 : decode cX9_stateOf 56 = .ok (.iload_n 3, 1) := by decide +kernel
theorem dX9_stateOf_57 : decode cX9_stateOf 57 = .ok (.iconst 3, 1) := by decide +kernel
theorem dX9_stateOf_58 : decode cX9_stateOf 58 = .ok (.if_icmp .ge 23, 3) := by decide +kernel
theorem dX9_stateOf_61 : decode cX9_stateOf 61 = .ok (.ldc2_w 147, 3) := by decide +kernel
theorem dX9_stateOf_64 : decode cX9_stateOf 64 = .ok (.lload_n 1, 1) := by decide +kernel
theorem dX9_stateOf_65 : decode cX9_stateOf 65 = .ok (.lmul, 1) := by decide +kernel
theorem dX9_stateOf_66 : decode cX9_stateOf 66 = .ok (.aload_n 0, 1) := by decide +kernel
theorem dX9_stateOf_67 : decode cX9_stateOf 67 = .ok (.getfield 35, 3) := by decide +kernel
theorem dX9_stateOf_70 : decode cX9_stateOf 70 = .ok (.iload_n 3, 1) := by decide +kernel
theorem dX9_stateOf_71 : decode cX9_stateOf 71 = .ok (.iaload, 1) := by decide +kernel
theorem dX9_stateOf_72 : decode cX9_stateOf 72 = .ok (.i2l, 1) := by decide +kernel
theorem dX9_stateOf_73 : decode cX9_stateOf 73 = .ok (.ladd, 1) := by decide +kernel
theorem dX9_stateOf_74 : decode cX9_stateOf 74 = .ok (.lstore_n 1, 1) := by decide +kernel
theorem dX9_stateOf_75 : decode cX9_stateOf 75 = .ok (.iinc 3 1, 3) := by decide +kernel
theorem dX9_stateOf_78 : decode cX9_stateOf 78 = .ok (.goto (-22), 3) := by decide +kernel
theorem dX9_stateOf_81 : decode cX9_stateOf 81 = .ok (.ldc2_w 147, 3) := by decide +kernel
theorem dX9_stateOf_84 : decode cX9_stateOf 84 = .ok (.lload_n 1, 1) := by decide +kernel
theorem dX9_stateOf_85 : decode cX9_stateOf 85 = .ok (.lmul, 1) := by decide +kernel
theorem dX9_stateOf_86 : decode cX9_stateOf 86 = .ok (.aload_n 0, 1) := by decide +kernel
theorem dX9_stateOf_87 : decode cX9_stateOf 87 = .ok (.getfield 83, 3) := by decide +kernel
theorem dX9_stateOf_90 : decode cX9_stateOf 90 = .ok (.i2l, 1) := by decide +kernel
theorem dX9_stateOf_91 : decode cX9_stateOf 91 = .ok (.ladd, 1) := by decide +kernel
theorem dX9_stateOf_92 : decode cX9_stateOf 92 = .ok (.lstore_n 1, 1) := by decide +kernel
theorem dX9_stateOf_93 : decode cX9_stateOf 93 = .ok (.ldc2_w 153, 3) := by decide +kernel
theorem dX9_stateOf_96 : decode cX9_stateOf 96 = .ok (.lload_n 1, 1) := by decide +kernel
theorem dX9_stateOf_97 : decode cX9_stateOf 97 = .ok (.lmul, 1) := by decide +kernel
theorem dX9_stateOf_98 : decode cX9_stateOf 98 = .ok (.aload_n 0, 1) := by decide +kernel
theorem dX9_stateOf_99 : decode cX9_stateOf 99 = .ok (.getfield 80, 3) := by decide +kernel
theorem dX9_stateOf_102 : decode cX9_stateOf 102 = .ok (.i2l, 1) := by decide +kernel
theorem dX9_stateOf_103 : decode cX9_stateOf 103 = .ok (.ladd, 1) := by decide +kernel
theorem dX9_stateOf_104 : decode cX9_stateOf 104 = .ok (.lstore_n 1, 1) := by decide +kernel
theorem dX9_stateOf_105 : decode cX9_stateOf 105 = .ok (.ldc2_w 151, 3) := by decide +kernel
theorem dX9_stateOf_108 : decode cX9_stateOf 108 = .ok (.lload_n 1, 1) := by decide +kernel
theorem dX9_stateOf_109 : decode cX9_stateOf 109 = .ok (.lmul, 1) := by decide +kernel
theorem dX9_stateOf_110 : decode cX9_stateOf 110 = .ok (.aload_n 0, 1) := by decide +kernel
theorem dX9_stateOf_111 : decode cX9_stateOf 111 = .ok (.getfield 130, 3) := by decide +kernel
theorem dX9_stateOf_114 : decode cX9_stateOf 114 = .ok (.i2l, 1) := by decide +kernel
theorem dX9_stateOf_115 : decode cX9_stateOf 115 = .ok (.ladd, 1) := by decide +kernel
theorem dX9_stateOf_116 : decode cX9_stateOf 116 = .ok (.lstore_n 1, 1) := by decide +kernel
theorem dX9_stateOf_117 : decode cX9_stateOf 117 = .ok (.ldc2_w 145, 3) := by decide +kernel
theorem dX9_stateOf_120 : decode cX9_stateOf 120 = .ok (.lload_n 1, 1) := by decide +kernel
theorem dX9_stateOf_121 : decode cX9_stateOf 121 = .ok (.lmul, 1) := by decide +kernel
theorem dX9_stateOf_122 : decode cX9_stateOf 122 = .ok (.aload_n 0, 1) := by decide +kernel
theorem dX9_stateOf_123 : decode cX9_stateOf 123 = .ok (.getfield 142, 3) := by decide +kernel
theorem dX9_stateOf_126 : decode cX9_stateOf 126 = .ok (.i2l, 1) := by decide +kernel
theorem dX9_stateOf_127 : decode cX9_stateOf 127 = .ok (.ladd, 1) := by decide +kernel
theorem dX9_stateOf_128 : decode cX9_stateOf 128 = .ok (.lstore_n 1, 1) := by decide +kernel
theorem dX9_stateOf_129 : decode cX9_stateOf 129 = .ok (.ldc2_w 153, 3) := by decide +kernel
theorem dX9_stateOf_132 : decode cX9_stateOf 132 = .ok (.lload_n 1, 1) := by decide +kernel
theorem dX9_stateOf_133 : decode cX9_stateOf 133 = .ok (.lmul, 1) := by decide +kernel
theorem dX9_stateOf_134 : decode cX9_stateOf 134 = .ok (.aload_n 0, 1) := by decide +kernel
theorem dX9_stateOf_135 : decode cX9_stateOf 135 = .ok (.getfield 113, 3) := by decide +kernel
theorem dX9_stateOf_138 : decode cX9_stateOf 138 = .ok (.i2l, 1) := by decide +kernel
theorem dX9_stateOf_139 : decode cX9_stateOf 139 = .ok (.ladd, 1) := by decide +kernel
theorem dX9_stateOf_140 : decode cX9_stateOf 140 = .ok (.lreturn, 1) := by decide +kernel
theorem dX9_takes_0 : decode cX9_takes 0 = .ok (.aload_n 0, 1) := by decide +kernel
theorem dX9_takes_1 : decode cX9_takes 1 = .ok (.getfield 155, 3) := by decide +kernel
theorem dX9_takes_4 : decode cX9_takes 4 = .ok (.lload_n 1, 1) := by decide +kernel
theorem dX9_takes_5 : decode cX9_takes 5 = .ok (.lrem, 1) := by decide +kernel
theorem dX9_takes_6 : decode cX9_takes 6 = .ok (.l2i, 1) := by decide +kernel
theorem dX9_takes_7 : decode cX9_takes 7 = .ok (.istore_n 3, 1) := by decide +kernel
theorem dX9_takes_8 : decode cX9_takes 8 = .ok (.aload_n 0, 1) := by decide +kernel
theorem dX9_takes_9 : decode cX9_takes 9 = .ok (.dup, 1) := by decide +kernel
theorem dX9_takes_10 : decode cX9_takes 10 = .ok (.getfield 155, 3) := by decide +kernel
theorem dX9_takes_13 : decode cX9_takes 13 = .ok (.lload_n 1, 1) := by decide +kernel
theorem dX9_takes_14 : decode cX9_takes 14 = .ok (.ldiv, 1) := by decide +kernel
theorem dX9_takes_15 : decode cX9_takes 15 = .ok (.putfield 155, 3) := by decide +kernel
theorem dX9_takes_18 : decode cX9_takes 18 = .ok (.iload_n 3, 1) := by decide +kernel
theorem dX9_takes_19 : decode cX9_takes 19 = .ok (.ireturn, 1) := by decide +kernel
set_option maxRecDepth 20000 in
theorem ggX9_becomes_X9_takes : GoodIn wsX9_becomes wsX9_takes := goodIn_r _ [23, 1, 24, 25, 26, 27, 28, 29, 30, 31, 32, 33, 34, 35, 36, 37, 38, 39, 40, 41, 42, 43, 44, 45, 46, 47, 48, 49, 50, 51, 52, 53, 54, 55, 56, 57, 58, 59, 60, 61, 62, 63] (by decide +kernel) (by decide +kernel)
set_option maxRecDepth 20000 in
theorem gX9_becomes_X9_takes : GoodIn wsX9_becomes (wsV RX9 159 RX9 yX9_takes wsX9_takes) := goodIn_app (goodIn_of _ (by decide +kernel)) ggX9_becomes_X9_takes
theorem dX9_becomes_0 : decode cX9_becomes 0 = .ok (.aload_n 0, 1) := by decide +kernel
theorem dX9_becomes_1 : decode cX9_becomes 1 = .ok (.lload_n 1, 1) := by decide +kernel
theorem dX9_becomes_2 : decode cX9_becomes 2 = .ok (.putfield 155, 3) := by decide +kernel
theorem dX9_becomes_5 : decode cX9_becomes 5 = .ok (.aload_n 0, 1) := by decide +kernel
theorem dX9_becomes_6 : decode cX9_becomes 6 = .ok (.aload_n 0, 1) := by decide +kernel
theorem dX9_becomes_7 : decode cX9_becomes 7 = .ok (.ldc2_w 153, 3) := by decide +kernel
theorem dX9_becomes_10 : decode cX9_becomes 10 = .ok (.invokevirtual 159, 3) := by decide +kernel
theorem dX9_becomes_13 : decode cX9_becomes 13 = .ok (.putfield 113, 3) := by decide +kernel
theorem dX9_becomes_16 : decode cX9_becomes 16 = .ok (.aload_n 0, 1) := by decide +kernel
theorem dX9_becomes_17 : decode cX9_becomes 17 = .ok (.aload_n 0, 1) := by decide +kernel
theorem dX9_becomes_18 : decode cX9_becomes 18 = .ok (.ldc2_w 145, 3) := by decide +kernel
theorem dX9_becomes_21 : decode cX9_becomes 21 = .ok (.invokevirtual 159, 3) := by decide +kernel
theorem dX9_becomes_24 : decode cX9_becomes 24 = .ok (.putfield 142, 3) := by decide +kernel
theorem dX9_becomes_27 : decode cX9_becomes 27 = .ok (.aload_n 0, 1) := by decide +kernel
theorem dX9_becomes_28 : decode cX9_becomes 28 = .ok (.aload_n 0, 1) := by decide +kernel
theorem dX9_becomes_29 : decode cX9_becomes 29 = .ok (.ldc2_w 151, 3) := by decide +kernel
theorem dX9_becomes_32 : decode cX9_becomes 32 = .ok (.invokevirtual 159, 3) := by decide +kernel
theorem dX9_becomes_35 : decode cX9_becomes 35 = .ok (.putfield 130, 3) := by decide +kernel
theorem dX9_becomes_38 : decode cX9_becomes 38 = .ok (.aload_n 0, 1) := by decide +kernel
theorem dX9_becomes_39 : decode cX9_becomes 39 = .ok (.aload_n 0, 1) := by decide +kernel
theorem dX9_becomes_40 : decode cX9_becomes 40 = .ok (.ldc2_w 153, 3) := by decide +kernel
theorem dX9_becomes_43 : decode cX9_becomes 43 = .ok (.invokevirtual 159, 3) := by decide +kernel
theorem dX9_becomes_46 : decode cX9_becomes 46 = .ok (.putfield 80, 3) := by decide +kernel
theorem dX9_becomes_49 : decode cX9_becomes 49 = .ok (.aload_n 0, 1) := by decide +kernel
theorem dX9_becomes_50 : decode cX9_becomes 50 = .ok (.aload_n 0, 1) := by decide +kernel
theorem dX9_becomes_51 : decode cX9_becomes 51 = .ok (.ldc2_w 147, 3) := by decide +kernel
theorem dX9_becomes_54 : decode cX9_becomes 54 = .ok (.invokevirtual 159, 3) := by decide +kernel
theorem dX9_becomes_57 : decode cX9_becomes 57 = .ok (.putfield 83, 3) := by decide +kernel
theorem dX9_becomes_60 : decode cX9_becomes 60 = .ok (.iconst 2, 1) := by decide +kernel
theorem dX9_becomes_61 : decode cX9_becomes 61 = .ok (.istore 4, 2) := by decide +kernel
theorem dX9_becomes_63 : decode cX9_becomes 63 = .ok (.iload 4, 2) := by decide +kernel
theorem dX9_becomes_65 : decode cX9_becomes 65 = .ok (.ifCond .lt 23, 3) := by decide +kernel
theorem dX9_becomes_68 : decode cX9_becomes 68 = .ok (.aload_n 0, 1) := by decide +kernel
theorem dX9_becomes_69 : decode cX9_becomes 69 = .ok (.getfield 35, 3) := by decide +kernel
theorem dX9_becomes_72 : decode cX9_becomes 72 = .ok (.iload 4, 2) := by decide +kernel
theorem dX9_becomes_74 : decode cX9_becomes 74 = .ok (.aload_n 0, 1) := by decide +kernel
theorem dX9_becomes_75 : decode cX9_becomes 75 = .ok (.ldc2_w 147, 3) := by decide +kernel
theorem dX9_becomes_78 : decode cX9_becomes 78 = .ok (.invokevirtual 159, 3) := by decide +kernel
theorem dX9_becomes_81 : decode cX9_becomes 81 = .ok (.iastore, 1) := by decide +kernel
theorem dX9_becomes_82 : decode cX9_becomes 82 = .ok (.iinc 4 (-1), 3) := by decide +kernel
theorem dX9_becomes_85 : decode cX9_becomes 85 = .ok (.goto (-22), 3) := by decide +kernel
theorem dX9_becomes_88 : decode cX9_becomes 88 = .ok (.aload_n 0, 1) := by decide +kernel
theorem dX9_becomes_89 : decode cX9_becomes 89 = .ok (.aload_n 0, 1) := by decide +kernel
theorem dX9_becomes_90 : decode cX9_becomes 90 = .ok (.ldc2_w 151, 3) := by decide +kernel
theorem dX9_becomes_93 : decode cX9_becomes 93 = .ok (.invokevirtual 159, 3) := by decide +kernel
theorem dX9_becomes_96 : decode cX9_becomes 96 = .ok (.putfield 100, 3) := by decide +kernel
theorem dX9_becomes_99 : decode cX9_becomes 99 = .ok (.aload_n 0, 1) := by decide +kernel
theorem dX9_becomes_100 : decode cX9_becomes 100 = .ok (.aload_n 0, 1) := by decide +kernel
theorem dX9_becomes_101 : decode cX9_becomes 101 = .ok (.ldc2_w 149, 3) := by decide +kernel
theorem dX9_becomes_104 : decode cX9_becomes 104 = .ok (.invokevirtual 159, 3) := by decide +kernel
theorem dX9_becomes_107 : decode cX9_becomes 107 = .ok (.putfield 86, 3) := by decide +kernel
theorem dX9_becomes_110 : decode cX9_becomes 110 = .ok (.aload_n 0, 1) := by decide +kernel
theorem dX9_becomes_111 : decode cX9_becomes 111 = .ok (.aload_n 0, 1) := by decide +kernel
theorem dX9_becomes_112 : decode cX9_becomes 112 = .ok (.ldc2_w 147, 3) := by decide +kernel
theorem dX9_becomes_115 : decode cX9_becomes 115 = .ok (.invokevirtual 159, 3) := by decide +kernel
theorem dX9_becomes_118 : decode cX9_becomes 118 = .ok (.putfield 77, 3) := by decide +kernel
theorem dX9_becomes_121 : decode cX9_becomes 121 = .ok (.aload_n 0, 1) := by decide +kernel
theorem dX9_becomes_122 : decode cX9_becomes 122 = .ok (.aload_n 0, 1) := by decide +kernel
theorem dX9_becomes_123 : decode cX9_becomes 123 = .ok (.ldc2_w 145, 3) := by decide +kernel
theorem dX9_becomes_126 : decode cX9_becomes 126 = .ok (.invokevirtual 159, 3) := by decide +kernel
theorem dX9_becomes_129 : decode cX9_becomes 129 = .ok (.putfield 74, 3) := by decide +kernel
theorem dX9_becomes_132 : decode cX9_becomes 132 = .ok (.aload_n 0, 1) := by decide +kernel
theorem dX9_becomes_133 : decode cX9_becomes 133 = .ok (.aload_n 0, 1) := by decide +kernel
theorem dX9_becomes_134 : decode cX9_becomes 134 = .ok (.getfield 155, 3) := by decide +kernel
theorem dX9_becomes_137 : decode cX9_becomes 137 = .ok (.l2i, 1) := by decide +kernel
theorem dX9_becomes_138 : decode cX9_becomes 138 = .ok (.putfield 32, 3) := by decide +kernel
theorem dX9_becomes_141 : decode cX9_becomes 141 = .ok (.aload_n 0, 1) := by decide +kernel
theorem dX9_becomes_142 : decode cX9_becomes 142 = .ok (.iload_n 3, 1) := by decide +kernel
theorem dX9_becomes_143 : decode cX9_becomes 143 = .ok (.putfield 38, 3) := by decide +kernel
theorem dX9_becomes_146 : decode cX9_becomes 146 = .ok (.return_, 1) := by decide +kernel
set_option maxRecDepth 20000 in
theorem ggX9_begins_X9_becomes : GoodIn wsX9_begins wsX9_becomes := goodIn_r _ [6, 7, 8, 9, 10, 11, 12, 13, 14, 15, 16, 17, 18, 19, 20, 21, 22, 1, 23, 24, 25, 26, 5, 27, 28, 29, 30, 31, 32, 33, 34, 35, 36, 37, 38, 39, 40, 41, 42, 43, 44, 45, 46, 47, 48, 49, 50, 51, 52, 53, 54, 55, 56, 57, 58, 59, 60, 61, 62, 63, 64, 65, 66, 67] (by decide +kernel) (by decide +kernel)
set_option maxRecDepth 20000 in
theorem gX9_begins_X9_becomes : GoodIn wsX9_begins (wsV RX9 163 RX9 yX9_becomes wsX9_becomes) := goodIn_app (goodIn_of _ (by decide +kernel)) ggX9_begins_X9_becomes
theorem dX9_begins_0 : decode cX9_begins 0 = .ok (.aload_n 0, 1) := by decide +kernel
theorem dX9_begins_1 : decode cX9_begins 1 = .ok (.lconst 0, 1) := by decide +kernel
theorem dX9_begins_2 : decode cX9_begins 2 = .ok (.bipush (-9), 2) := by decide +kernel
theorem dX9_begins_4 : decode cX9_begins 4 = .ok (.invokevirtual 163, 3) := by decide +kernel
theorem dX9_begins_7 : decode cX9_begins 7 = .ok (.aload_n 0, 1) := by decide +kernel
theorem dX9_begins_8 : decode cX9_begins 8 = .ok (.iconst 1, 1) := by decide +kernel
theorem dX9_begins_9 : decode cX9_begins 9 = .ok (.putfield 32, 3) := by decide +kernel
theorem dX9_begins_12 : decode cX9_begins 12 = .ok (.return_, 1) := by decide +kernel
set_option maxRecDepth 20000 in
theorem ggX9_anew_X9_within : GoodIn wsX9_anew wsX9_within := goodIn_r _ [18] (by decide +kernel) (by decide +kernel)
set_option maxRecDepth 20000 in
theorem gX9_anew_X9_within : GoodIn wsX9_anew (va_wsS RX9 66 yX9_within wsX9_within) := goodIn_app (goodIn_of _ (by decide +kernel)) ggX9_anew_X9_within
set_option maxRecDepth 20000 in
theorem ggX9_anew_X9_begins : GoodIn wsX9_anew wsX9_begins := goodIn_r _ [22, 23, 24, 25, 26, 17, 27, 28, 29, 30, 31, 32, 33, 34, 35, 36, 37, 38, 39, 40, 41, 42, 43, 44, 45, 46, 47, 48, 49, 50, 51, 52, 53, 54, 55, 56, 57, 58, 59, 60, 61, 62, 63, 64, 65, 66, 67, 68, 69, 70, 71, 72, 73, 74, 75, 76, 77, 78, 79, 80, 81, 82, 83, 84, 85, 86, 87, 88] (by decide +kernel) (by decide +kernel)
set_option maxRecDepth 20000 in
theorem gX9_anew_X9_begins : GoodIn wsX9_anew (wsV RX9 167 RX9 yX9_begins wsX9_begins) := goodIn_app (goodIn_of _ (by decide +kernel)) ggX9_anew_X9_begins
theorem dX9_anew_0 : decode cX9_anew 0 = .ok (.iload_n 1, 1) := by decide +kernel
theorem dX9_anew_1 : decode cX9_anew 1 = .ok (.iconst 0, 1) := by decide +kernel
theorem dX9_anew_2 : decode cX9_anew 2 = .ok (.iconst 5, 1) := by decide +kernel
theorem dX9_anew_3 : decode cX9_anew 3 = .ok (.invokestatic 66, 3) := by decide +kernel
theorem dX9_anew_6 : decode cX9_anew 6 = .ok (.ifCond .eq 44, 3) := by decide +kernel
theorem dX9_anew_9 : decode cX9_anew 9 = .ok (.iload_n 2, 1) := by decide +kernel
theorem dX9_anew_10 : decode cX9_anew 10 = .ok (.iconst 1, 1) := by decide +kernel
theorem dX9_anew_11 : decode cX9_anew 11 = .ok (.bipush 9, 2) := by decide +kernel
theorem dX9_anew_13 : decode cX9_anew 13 = .ok (.invokestatic 66, 3) := by decide +kernel
theorem dX9_anew_16 : decode cX9_anew 16 = .ok (.ifCond .eq 34, 3) := by decide +kernel
theorem dX9_anew_19 : decode cX9_anew 19 = .ok (.iload_n 3, 1) := by decide +kernel
theorem dX9_anew_20 : decode cX9_anew 20 = .ok (.iconst 1, 1) := by decide +kernel
theorem dX9_anew_21 : decode cX9_anew 21 = .ok (.bipush 30, 2) := by decide +kernel
theorem dX9_anew_23 : decode cX9_anew 23 = .ok (.invokestatic 66, 3) := by decide +kernel
theorem dX9_anew_26 : decode cX9_anew 26 = .ok (.ifCond .eq 24, 3) := by decide +kernel
theorem dX9_anew_29 : decode cX9_anew 29 = .ok (.iload 4, 2) := by decide +kernel
theorem dX9_anew_31 : decode cX9_anew 31 = .ok (.iconst 0, 1) := by decide +kernel
theorem dX9_anew_32 : decode cX9_anew 32 = .ok (.iconst 3, 1) := by decide +kernel
theorem dX9_anew_33 : decode cX9_anew 33 = .ok (.invokestatic 66, 3) := by decide +kernel
theorem dX9_anew_36 : decode cX9_anew 36 = .ok (.ifCond .eq 14, 3) := by decide +kernel
theorem dX9_anew_39 : decode cX9_anew 39 = .ok (.iload 5, 2) := by decide +kernel
theorem dX9_anew_41 : decode cX9_anew 41 = .ok (.iconst 2, 1) := by decide +kernel
theorem dX9_anew_42 : decode cX9_anew 42 = .ok (.bipush 9, 2) := by decide +kernel
theorem dX9_anew_44 : decode cX9_anew 44 = .ok (.invokestatic 66, 3) := by decide +kernel
theorem dX9_anew_47 : decode cX9_anew 47 = .ok (.ifCond .ne 6, 3) := by decide +kernel
theorem dX9_anew_50 : decode cX9_anew 50 = .ok (.bipush (-2), 2) := by decide +kernel
theorem dX9_anew_52 : decode cX9_anew 52 = .ok (.ireturn, 1) := by decide +kernel
theorem dX9_anew_53 : decode cX9_anew 53 = .ok (.aload_n 0, 1) := by decide +kernel
theorem dX9_anew_54 : decode cX9_anew 54 = .ok (.iload_n 1, 1) := by decide +kernel
theorem dX9_anew_55 : decode cX9_anew 55 = .ok (.putfield 7, 3) := by decide +kernel
theorem dX9_anew_58 : decode cX9_anew 58 = .ok (.aload_n 0, 1) := by decide +kernel
theorem dX9_anew_59 : decode cX9_anew 59 = .ok (.iload_n 2, 1) := by decide +kernel
theorem dX9_anew_60 : decode cX9_anew 60 = .ok (.putfield 13, 3) := by decide +kernel
theorem dX9_anew_63 : decode cX9_anew 63 = .ok (.aload_n 0, 1) := by decide +kernel
theorem dX9_anew_64 : decode cX9_anew 64 = .ok (.iload_n 3, 1) := by decide +kernel
theorem dX9_anew_65 : decode cX9_anew 65 = .ok (.putfield 16, 3) := by decide +kernel
theorem dX9_anew_68 : decode cX9_anew 68 = .ok (.aload_n 0, 1) := by decide +kernel
theorem dX9_anew_69 : decode cX9_anew 69 = .ok (.iload 4, 2) := by decide +kernel
theorem dX9_anew_71 : decode cX9_anew 71 = .ok (.putfield 19, 3) := by decide +kernel
theorem dX9_anew_74 : decode cX9_anew 74 = .ok (.aload_n 0, 1) := by decide +kernel
theorem dX9_anew_75 : decode cX9_anew 75 = .ok (.iload 5, 2) := by decide +kernel
theorem dX9_anew_77 : decode cX9_anew 77 = .ok (.putfield 22, 3) := by decide +kernel
theorem dX9_anew_80 : decode cX9_anew 80 = .ok (.iconst 0, 1) := by decide +kernel
theorem dX9_anew_81 : decode cX9_anew 81 = .ok (.istore 6, 2) := by decide +kernel
theorem dX9_anew_83 : decode cX9_anew 83 = .ok (.iload 6, 2) := by decide +kernel
theorem dX9_anew_85 : decode cX9_anew 85 = .ok (.bipush 9, 2) := by decide +kernel
theorem dX9_anew_87 : decode cX9_anew 87 = .ok (.if_icmp .ge 17, 3) := by decide +kernel
theorem dX9_anew_90 : decode cX9_anew 90 = .ok (.aload_n 0, 1) := by decide +kernel
theorem dX9_anew_91 : decode cX9_anew 91 = .ok (.getfield 25, 3) := by decide +kernel
theorem dX9_anew_94 : decode cX9_anew 94 = .ok (.iload 6, 2) := by decide +kernel
theorem dX9_anew_96 : decode cX9_anew 96 = .ok (.iconst 2, 1) := by decide +kernel
theorem dX9_anew_97 : decode cX9_anew 97 = .ok (.iastore, 1) := by decide +kernel
theorem dX9_anew_98 : decode cX9_anew 98 = .ok (.iinc 6 1, 3) := by decide +kernel
theorem dX9_anew_101 : decode cX9_anew 101 = .ok (.goto (-18), 3) := by decide +kernel
theorem dX9_anew_104 : decode cX9_anew 104 = .ok (.aload_n 0, 1) := by decide +kernel
theorem dX9_anew_105 : decode cX9_anew 105 = .ok (.getfield 29, 3) := by decide +kernel
theorem dX9_anew_108 : decode cX9_anew 108 = .ok (.iconst 0, 1) := by decide +kernel
theorem dX9_anew_109 : decode cX9_anew 109 = .ok (.iconst 2, 1) := by decide +kernel
theorem dX9_anew_110 : decode cX9_anew 110 = .ok (.iastore, 1) := by decide +kernel
theorem dX9_anew_111 : decode cX9_anew 111 = .ok (.aload_n 0, 1) := by decide +kernel
theorem dX9_anew_112 : decode cX9_anew 112 = .ok (.getfield 29, 3) := by decide +kernel
theorem dX9_anew_115 : decode cX9_anew 115 = .ok (.iconst 1, 1) := by decide +kernel
theorem dX9_anew_116 : decode cX9_anew 116 = .ok (.iconst 2, 1) := by decide +kernel
theorem dX9_anew_117 : decode cX9_anew 117 = .ok (.iastore, 1) := by decide +kernel
theorem dX9_anew_118 : decode cX9_anew 118 = .ok (.aload_n 0, 1) := by decide +kernel
theorem dX9_anew_119 : decode cX9_anew 119 = .ok (.invokevirtual 167, 3) := by decide +kernel
theorem dX9_anew_122 : decode cX9_anew 122 = .ok (.aload_n 0, 1) := by decide +kernel
theorem dX9_anew_123 : decode cX9_anew 123 = .ok (.iconst 0, 1) := by decide +kernel
theorem dX9_anew_124 : decode cX9_anew 124 = .ok (.putfield 170, 3) := by decide +kernel
theorem dX9_anew_127 : decode cX9_anew 127 = .ok (.aload_n 0, 1) := by decide +kernel
theorem dX9_anew_128 : decode cX9_anew 128 = .ok (.iconst 0, 1) := by decide +kernel
theorem dX9_anew_129 : decode cX9_anew 129 = .ok (.putfield 173, 3) := by decide +kernel
theorem dX9_anew_132 : decode cX9_anew 132 = .ok (.aload_n 0, 1) := by decide +kernel
theorem dX9_anew_133 : decode cX9_anew 133 = .ok (.iconst 0, 1) := by decide +kernel
theorem dX9_anew_134 : decode cX9_anew 134 = .ok (.putfield 176, 3) := by decide +kernel
theorem dX9_anew_137 : decode cX9_anew 137 = .ok (.aload_n 0, 1) := by decide +kernel
theorem dX9_anew_138 : decode cX9_anew 138 = .ok (.iconst 0, 1) := by decide +kernel
theorem dX9_anew_139 : decode cX9_anew 139 = .ok (.putfield 179, 3) := by decide +kernel
theorem dX9_anew_142 : decode cX9_anew 142 = .ok (.aload_n 0, 1) := by decide +kernel
theorem dX9_anew_143 : decode cX9_anew 143 = .ok (.iconst 0, 1) := by decide +kernel
theorem dX9_anew_144 : decode cX9_anew 144 = .ok (.putfield 182, 3) := by decide +kernel
theorem dX9_anew_147 : decode cX9_anew 147 = .ok (.iconst 0, 1) := by decide +kernel
theorem dX9_anew_148 : decode cX9_anew 148 = .ok (.istore 6, 2) := by decide +kernel
theorem dX9_anew_150 : decode cX9_anew 150 = .ok (.iload 6, 2) := by decide +kernel
theorem dX9_anew_152 : decode cX9_anew 152 = .ok (.aload_n 0, 1) := by decide +kernel
theorem dX9_anew_153 : decode cX9_anew 153 = .ok (.getfield 41, 3) := by decide +kernel
theorem dX9_anew_156 : decode cX9_anew 156 = .ok (.arraylength, 1) := by decide +kernel
theorem dX9_anew_157 : decode cX9_anew 157 = .ok (.if_icmp .ge 17, 3) := by decide +kernel
theorem dX9_anew_160 : decode cX9_anew 160 = .ok (.aload_n 0, 1) := by decide +kernel
theorem dX9_anew_161 : decode cX9_anew 161 = .ok (.getfield 41, 3) := by decide +kernel
theorem dX9_anew_164 : decode cX9_anew 164 = .ok (.iload 6, 2) := by decide +kernel
theorem dX9_anew_166 : decode cX9_anew 166 = .ok (.iconst 0, 1) := by decide +kernel
theorem dX9_anew_167 : decode cX9_anew 167 = .ok (.iastore, 1) := by decide +kernel
theorem dX9_anew_168 : decode cX9_anew 168 = .ok (.iinc 6 1, 3) := by decide +kernel
theorem dX9_anew_171 : decode cX9_anew 171 = .ok (.goto (-21), 3) := by decide +kernel
theorem dX9_anew_174 : decode cX9_anew 174 = .ok (.iconst 0, 1) := by decide +kernel
theorem dX9_anew_175 : decode cX9_anew 175 = .ok (.istore 6, 2) := by decide +kernel
theorem dX9_anew_177 : decode cX9_anew 177 = .ok (.iload 6, 2) := by decide +kernel
theorem dX9_anew_179 : decode cX9_anew 179 = .ok (.iconst 5, 1) := by decide +kernel
theorem dX9_anew_180 : decode cX9_anew 180 = .ok (.if_icmp .ge 17, 3) := by decide +kernel
theorem dX9_anew_183 : decode cX9_anew 183 = .ok (.aload_n 0, 1) := by decide +kernel
theorem dX9_anew_184 : decode cX9_anew 184 = .ok (.getfield 47, 3) := by decide +kernel
theorem dX9_anew_187 : decode cX9_anew 187 = .ok (.iload 6, 2) := by decide +kernel
theorem dX9_anew_189 : decode cX9_anew 189 = .ok (.iconst 0, 1) := by decide +kernel
theorem dX9_anew_190 : decode cX9_anew 190 = .ok (.iastore, 1) := by decide +kernel
theorem dX9_anew_191 : decode cX9_anew 191 = .ok (.iinc 6 1, 3) := by decide +kernel
theorem dX9_anew_194 : decode cX9_anew 194 = .ok (.goto (-17), 3) := by decide +kernel
theorem dX9_anew_197 : decode cX9_anew 197 = .ok (.iconst 1, 1) := by decide +kernel
theorem dX9_anew_198 : decode cX9_anew 198 = .ok (.ireturn, 1) := by decide +kernel
set_option maxRecDepth 20000 in
theorem ggX9_stick_X9_within : GoodIn wsX9_stick wsX9_within := goodIn_r _ [5] (by decide +kernel) (by decide +kernel)
set_option maxRecDepth 20000 in
theorem gX9_stick_X9_within : GoodIn wsX9_stick (va_wsS RX9 66 yX9_within wsX9_within) := goodIn_app (goodIn_of _ (by decide +kernel)) ggX9_stick_X9_within
theorem dX9_stick_0 : decode cX9_stick 0 = .ok (.iload_n 1, 1) := by decide +kernel
theorem dX9_stick_1 : decode cX9_stick 1 = .ok (.iconst 0, 1) := by decide +kernel
theorem dX9_stick_2 : decode cX9_stick 2 = .ok (.bipush 8, 2) := by decide +kernel
theorem dX9_stick_4 : decode cX9_stick 4 = .ok (.invokestatic 66, 3) := by decide +kernel
theorem dX9_stick_7 : decode cX9_stick 7 = .ok (.ifCond .ne 5, 3) := by decide +kernel
theorem dX9_stick_10 : decode cX9_stick 10 = .ok (.iconst (-1), 1) := by decide +kernel
theorem dX9_stick_11 : decode cX9_stick 11 = .ok (.ireturn, 1) := by decide +kernel
theorem dX9_stick_12 : decode cX9_stick 12 = .ok (.iload_n 2, 1) := by decide +kernel
theorem dX9_stick_13 : decode cX9_stick 13 = .ok (.iconst 0, 1) := by decide +kernel
theorem dX9_stick_14 : decode cX9_stick 14 = .ok (.iconst 2, 1) := by decide +kernel
theorem dX9_stick_15 : decode cX9_stick 15 = .ok (.invokestatic 66, 3) := by decide +kernel
theorem dX9_stick_18 : decode cX9_stick 18 = .ok (.ifCond .ne 6, 3) := by decide +kernel
theorem dX9_stick_21 : decode cX9_stick 21 = .ok (.bipush (-2), 2) := by decide +kernel
theorem dX9_stick_23 : decode cX9_stick 23 = .ok (.ireturn, 1) := by decide +kernel
theorem dX9_stick_24 : decode cX9_stick 24 = .ok (.aload_n 0, 1) := by decide +kernel
theorem dX9_stick_25 : decode cX9_stick 25 = .ok (.getfield 25, 3) := by decide +kernel
theorem dX9_stick_28 : decode cX9_stick 28 = .ok (.iload_n 1, 1) := by decide +kernel
theorem dX9_stick_29 : decode cX9_stick 29 = .ok (.iaload, 1) := by decide +kernel
theorem dX9_stick_30 : decode cX9_stick 30 = .ok (.istore_n 3, 1) := by decide +kernel
theorem dX9_stick_31 : decode cX9_stick 31 = .ok (.aload_n 0, 1) := by decide +kernel
theorem dX9_stick_32 : decode cX9_stick 32 = .ok (.getfield 25, 3) := by decide +kernel
theorem dX9_stick_35 : decode cX9_stick 35 = .ok (.iload_n 1, 1) := by decide +kernel
theorem dX9_stick_36 : decode cX9_stick 36 = .ok (.iload_n 2, 1) := by decide +kernel
theorem dX9_stick_37 : decode cX9_stick 37 = .ok (.iastore, 1) := by decide +kernel
theorem dX9_stick_38 : decode cX9_stick 38 = .ok (.iload_n 3, 1) := by decide +kernel
theorem dX9_stick_39 : decode cX9_stick 39 = .ok (.ireturn, 1) := by decide +kernel
set_option maxRecDepth 20000 in
theorem ggX9_valve_X9_within : GoodIn wsX9_valve wsX9_within := goodIn_r _ [5] (by decide +kernel) (by decide +kernel)
set_option maxRecDepth 20000 in
theorem gX9_valve_X9_within : GoodIn wsX9_valve (va_wsS RX9 66 yX9_within wsX9_within) := goodIn_app (goodIn_of _ (by decide +kernel)) ggX9_valve_X9_within
theorem dX9_valve_0 : decode cX9_valve 0 = .ok (.iload_n 1, 1) := by decide +kernel
theorem dX9_valve_1 : decode cX9_valve 1 = .ok (.iconst 0, 1) := by decide +kernel
theorem dX9_valve_2 : decode cX9_valve 2 = .ok (.iconst 1, 1) := by decide +kernel
theorem dX9_valve_3 : decode cX9_valve 3 = .ok (.invokestatic 66, 3) := by decide +kernel
theorem dX9_valve_6 : decode cX9_valve 6 = .ok (.ifCond .ne 5, 3) := by decide +kernel
theorem dX9_valve_9 : decode cX9_valve 9 = .ok (.iconst (-1), 1) := by decide +kernel
theorem dX9_valve_10 : decode cX9_valve 10 = .ok (.ireturn, 1) := by decide +kernel
theorem dX9_valve_11 : decode cX9_valve 11 = .ok (.iload_n 2, 1) := by decide +kernel
theorem dX9_valve_12 : decode cX9_valve 12 = .ok (.iconst 0, 1) := by decide +kernel
theorem dX9_valve_13 : decode cX9_valve 13 = .ok (.iconst 2, 1) := by decide +kernel
theorem dX9_valve_14 : decode cX9_valve 14 = .ok (.invokestatic 66, 3) := by decide +kernel
theorem dX9_valve_17 : decode cX9_valve 17 = .ok (.ifCond .ne 6, 3) := by decide +kernel
theorem dX9_valve_20 : decode cX9_valve 20 = .ok (.bipush (-2), 2) := by decide +kernel
theorem dX9_valve_22 : decode cX9_valve 22 = .ok (.ireturn, 1) := by decide +kernel
theorem dX9_valve_23 : decode cX9_valve 23 = .ok (.aload_n 0, 1) := by decide +kernel
theorem dX9_valve_24 : decode cX9_valve 24 = .ok (.getfield 29, 3) := by decide +kernel
theorem dX9_valve_27 : decode cX9_valve 27 = .ok (.iload_n 1, 1) := by decide +kernel
theorem dX9_valve_28 : decode cX9_valve 28 = .ok (.iaload, 1) := by decide +kernel
theorem dX9_valve_29 : decode cX9_valve 29 = .ok (.istore_n 3, 1) := by decide +kernel
theorem dX9_valve_30 : decode cX9_valve 30 = .ok (.aload_n 0, 1) := by decide +kernel
theorem dX9_valve_31 : decode cX9_valve 31 = .ok (.getfield 29, 3) := by decide +kernel
theorem dX9_valve_34 : decode cX9_valve 34 = .ok (.iload_n 1, 1) := by decide +kernel
theorem dX9_valve_35 : decode cX9_valve 35 = .ok (.iload_n 2, 1) := by decide +kernel
theorem dX9_valve_36 : decode cX9_valve 36 = .ok (.iastore, 1) := by decide +kernel
theorem dX9_valve_37 : decode cX9_valve 37 = .ok (.iload_n 3, 1) := by decide +kernel
theorem dX9_valve_38 : decode cX9_valve 38 = .ok (.ireturn, 1) := by decide +kernel
theorem dX9_notes_0 : decode cX9_notes 0 = .ok (.aload_n 0, 1) := by decide +kernel
theorem dX9_notes_1 : decode cX9_notes 1 = .ok (.dup, 1) := by decide +kernel
theorem dX9_notes_2 : decode cX9_notes 2 = .ok (.getfield 170, 3) := by decide +kernel
theorem dX9_notes_5 : decode cX9_notes 5 = .ok (.iconst 1, 1) := by decide +kernel
theorem dX9_notes_6 : decode cX9_notes 6 = .ok (.iadd, 1) := by decide +kernel
theorem dX9_notes_7 : decode cX9_notes 7 = .ok (.putfield 170, 3) := by decide +kernel
theorem dX9_notes_10 : decode cX9_notes 10 = .ok (.aload_n 0, 1) := by decide +kernel
theorem dX9_notes_11 : decode cX9_notes 11 = .ok (.dup, 1) := by decide +kernel
theorem dX9_notes_12 : decode cX9_notes 12 = .ok (.getfield 173, 3) := by decide +kernel
theorem dX9_notes_15 : decode cX9_notes 15 = .ok (.aload_n 0, 1) := by decide +kernel
theorem dX9_notes_16 : decode cX9_notes 16 = .ok (.getfield 136, 3) := by decide +kernel
theorem dX9_notes_19 : decode cX9_notes 19 = .ok (.iadd, 1) := by decide +kernel
theorem dX9_notes_20 : decode cX9_notes 20 = .ok (.putfield 173, 3) := by decide +kernel
theorem dX9_notes_23 : decode cX9_notes 23 = .ok (.aload_n 0, 1) := by decide +kernel
theorem dX9_notes_24 : decode cX9_notes 24 = .ok (.dup, 1) := by decide +kernel
theorem dX9_notes_25 : decode cX9_notes 25 = .ok (.getfield 176, 3) := by decide +kernel
theorem dX9_notes_28 : decode cX9_notes 28 = .ok (.aload_n 0, 1) := by decide +kernel
theorem dX9_notes_29 : decode cX9_notes 29 = .ok (.getfield 139, 3) := by decide +kernel
theorem dX9_notes_32 : decode cX9_notes 32 = .ok (.iadd, 1) := by decide +kernel
theorem dX9_notes_33 : decode cX9_notes 33 = .ok (.putfield 176, 3) := by decide +kernel
theorem dX9_notes_36 : decode cX9_notes 36 = .ok (.aload_n 0, 1) := by decide +kernel
theorem dX9_notes_37 : decode cX9_notes 37 = .ok (.getfield 47, 3) := by decide +kernel
theorem dX9_notes_40 : decode cX9_notes 40 = .ok (.iload_n 1, 1) := by decide +kernel
theorem dX9_notes_41 : decode cX9_notes 41 = .ok (.dup2, 1) := by decide +kernel
theorem dX9_notes_42 : decode cX9_notes 42 = .ok (.iaload, 1) := by decide +kernel
theorem dX9_notes_43 : decode cX9_notes 43 = .ok (.iconst 1, 1) := by decide +kernel
theorem dX9_notes_44 : decode cX9_notes 44 = .ok (.aload_n 0, 1) := by decide +kernel
theorem dX9_notes_45 : decode cX9_notes 45 = .ok (.getfield 32, 3) := by decide +kernel
theorem dX9_notes_48 : decode cX9_notes 48 = .ok (.ishl, 1) := by decide +kernel
theorem dX9_notes_49 : decode cX9_notes 49 = .ok (.ior, 1) := by decide +kernel
theorem dX9_notes_50 : decode cX9_notes 50 = .ok (.iastore, 1) := by decide +kernel
theorem dX9_notes_51 : decode cX9_notes 51 = .ok (.aload_n 0, 1) := by decide +kernel
theorem dX9_notes_52 : decode cX9_notes 52 = .ok (.getfield 127, 3) := by decide +kernel
theorem dX9_notes_55 : decode cX9_notes 55 = .ok (.bipush (-9), 2) := by decide +kernel
theorem dX9_notes_57 : decode cX9_notes 57 = .ok (.if_icmp .ne 4, 3) := by decide +kernel
theorem dX9_notes_60 : decode cX9_notes 60 = .ok (.return_, 1) := by decide +kernel
theorem dX9_notes_61 : decode cX9_notes 61 = .ok (.aload_n 0, 1) := by decide +kernel
theorem dX9_notes_62 : decode cX9_notes 62 = .ok (.dup, 1) := by decide +kernel
theorem dX9_notes_63 : decode cX9_notes 63 = .ok (.getfield 179, 3) := by decide +kernel
theorem dX9_notes_66 : decode cX9_notes 66 = .ok (.iconst 1, 1) := by decide +kernel
theorem dX9_notes_67 : decode cX9_notes 67 = .ok (.iadd, 1) := by decide +kernel
theorem dX9_notes_68 : decode cX9_notes 68 = .ok (.putfield 179, 3) := by decide +kernel
theorem dX9_notes_71 : decode cX9_notes 71 = .ok (.aload_n 0, 1) := by decide +kernel
theorem dX9_notes_72 : decode cX9_notes 72 = .ok (.getfield 41, 3) := by decide +kernel
theorem dX9_notes_75 : decode cX9_notes 75 = .ok (.bipush 18, 2) := by decide +kernel
theorem dX9_notes_77 : decode cX9_notes 77 = .ok (.aload_n 0, 1) := by decide +kernel
theorem dX9_notes_78 : decode cX9_notes 78 = .ok (.getfield 127, 3) := by decide +kernel
theorem dX9_notes_81 : decode cX9_notes 81 = .ok (.iconst 1, 1) := by decide +kernel
theorem dX9_notes_82 : decode cX9_notes 82 = .ok (.isub, 1) := by decide +kernel
theorem dX9_notes_83 : decode cX9_notes 83 = .ok (.imul, 1) := by decide +kernel
theorem dX9_notes_84 : decode cX9_notes 84 = .ok (.aload_n 0, 1) := by decide +kernel
theorem dX9_notes_85 : decode cX9_notes 85 = .ok (.getfield 133, 3) := by decide +kernel
theorem dX9_notes_88 : decode cX9_notes 88 = .ok (.iadd, 1) := by decide +kernel
theorem dX9_notes_89 : decode cX9_notes 89 = .ok (.dup2, 1) := by decide +kernel
theorem dX9_notes_90 : decode cX9_notes 90 = .ok (.iaload, 1) := by decide +kernel
theorem dX9_notes_91 : decode cX9_notes 91 = .ok (.iconst 1, 1) := by decide +kernel
theorem dX9_notes_92 : decode cX9_notes 92 = .ok (.iadd, 1) := by decide +kernel
theorem dX9_notes_93 : decode cX9_notes 93 = .ok (.iastore, 1) := by decide +kernel
theorem dX9_notes_94 : decode cX9_notes 94 = .ok (.iconst 1, 1) := by decide +kernel
theorem dX9_notes_95 : decode cX9_notes 95 = .ok (.istore_n 2, 1) := by decide +kernel
theorem dX9_notes_96 : decode cX9_notes 96 = .ok (.iconst 0, 1) := by decide +kernel
theorem dX9_notes_97 : decode cX9_notes 97 = .ok (.istore_n 3, 1) := by decide +kernel
theorem dX9_notes_98 : decode cX9_notes 98 = .ok (.iload_n 3, 1) := by decide +kernel
theorem dX9_notes_99 : decode cX9_notes 99 = .ok (.aload_n 0, 1) := by decide +kernel
theorem dX9_notes_100 : decode cX9_notes 100 = .ok (.getfield 182, 3) := by decide +kernel
theorem dX9_notes_103 : decode cX9_notes 103 = .ok (.if_icmp .ge 32, 3) := by decide +kernel
theorem dX9_notes_106 : decode cX9_notes 106 = .ok (.iload_n 2, 1) := by decide +kernel
theorem dX9_notes_107 : decode cX9_notes 107 = .ok (.ifCond .eq 20, 3) := by decide +kernel
theorem dX9_notes_110 : decode cX9_notes 110 = .ok (.aload_n 0, 1) := by decide +kernel
theorem dX9_notes_111 : decode cX9_notes 111 = .ok (.getfield 44, 3) := by decide +kernel
theorem dX9_notes_114 : decode cX9_notes 114 = .ok (.iload_n 3, 1) := by decide +kernel
theorem dX9_notes_115 : decode cX9_notes 115 = .ok (.iaload, 1) := by decide +kernel
theorem dX9_notes_116 : decode cX9_notes 116 = .ok (.aload_n 0, 1) := by decide +kernel
theorem dX9_notes_117 : decode cX9_notes 117 = .ok (.getfield 127, 3) := by decide +kernel
theorem dX9_notes_120 : decode cX9_notes 120 = .ok (.if_icmp .eq 7, 3) := by decide +kernel
theorem dX9_notes_123 : decode cX9_notes 123 = .ok (.iconst 1, 1) := by decide +kernel
theorem dX9_notes_124 : decode cX9_notes 124 = .ok (.goto 4, 3) := by decide +kernel
theorem dX9_notes_127 : decode cX9_notes 127 = .ok (.iconst 0, 1) := by decide +kernel
theorem dX9_notes_128 : decode cX9_notes 128 = .ok (.istore_n 2, 1) := by decide +kernel
theorem dX9_notes_129 : decode cX9_notes 129 = .ok (.iinc 3 1, 3) := by decide +kernel
theorem dX9_notes_132 : decode cX9_notes 132 = .ok (.goto (-34), 3) := by decide +kernel
theorem dX9_notes_135 : decode cX9_notes 135 = .ok (.iload_n 2, 1) := by decide +kernel
theorem dX9_notes_136 : decode cX9_notes 136 = .ok (.ifCond .eq 26, 3) := by decide +kernel
theorem dX9_notes_139 : decode cX9_notes 139 = .ok (.aload_n 0, 1) := by decide +kernel
theorem dX9_notes_140 : decode cX9_notes 140 = .ok (.getfield 44, 3) := by decide +kernel
theorem dX9_notes_143 : decode cX9_notes 143 = .ok (.aload_n 0, 1) := by decide +kernel
theorem dX9_notes_144 : decode cX9_notes 144 = .ok (.getfield 182, 3) := by decide +kernel
theorem dX9_notes_147 : decode cX9_notes 147 = .ok (.aload_n 0, 1) := by decide +kernel
theorem dX9_notes_148 : decode cX9_notes 148 = .ok (.getfield 127, 3) := by decide +kernel
theorem dX9_notes_151 : decode cX9_notes 151 = .ok (.iastore, 1) := by decide +kernel
theorem dX9_notes_152 : decode cX9_notes 152 = .ok (.aload_n 0, 1) := by decide +kernel
theorem dX9_notes_153 : decode cX9_notes 153 = .ok (.dup, 1) := by decide +kernel
theorem dX9_notes_154 : decode cX9_notes 154 = .ok (.getfield 182, 3) := by decide +kernel
theorem dX9_notes_157 : decode cX9_notes 157 = .ok (.iconst 1, 1) := by decide +kernel
theorem dX9_notes_158 : decode cX9_notes 158 = .ok (.iadd, 1) := by decide +kernel
theorem dX9_notes_159 : decode cX9_notes 159 = .ok (.putfield 182, 3) := by decide +kernel
theorem dX9_notes_162 : decode cX9_notes 162 = .ok (.return_, 1) := by decide +kernel
set_option maxRecDepth 20000 in
theorem ggX9_tick_X9_ticks : GoodIn wsX9_tick wsX9_ticks := goodIn_r _ [5, 6, 7, 8, 4, 9, 10, 11, 12, 13, 14, 15, 16, 17, 18, 19, 20, 21, 22, 23, 24, 25, 26, 27, 28, 29, 30, 31, 32, 33, 34, 35, 36, 37, 38, 39, 40, 41, 42, 43, 44, 45, 46, 47, 48, 49, 50, 51, 52, 53, 54, 55, 56, 57, 58, 59, 60, 61, 62, 63, 64, 65, 66, 67, 68, 69, 70, 71, 72, 73, 74, 75, 76, 77, 78, 79, 80, 81, 82, 83, 84, 85, 86, 87, 88, 89, 90, 91, 92, 93, 94, 95, 96, 97, 98, 99, 100, 101, 102, 103, 104, 105, 106, 107, 108, 109, 110, 111, 112, 113, 114, 115, 116, 117, 118, 119, 120, 121, 122, 123, 124, 125, 126] (by decide +kernel) (by decide +kernel)
set_option maxRecDepth 20000 in
theorem gX9_tick_X9_ticks : GoodIn wsX9_tick (wsV RX9 185 RX9 yX9_ticks wsX9_ticks) := goodIn_app (goodIn_of _ (by decide +kernel)) ggX9_tick_X9_ticks
theorem dX9_tick_0 : decode cX9_tick 0 = .ok (.aload_n 0, 1) := by decide +kernel
theorem dX9_tick_1 : decode cX9_tick 1 = .ok (.iload_n 1, 1) := by decide +kernel
theorem dX9_tick_2 : decode cX9_tick 2 = .ok (.iconst 1, 1) := by decide +kernel
theorem dX9_tick_3 : decode cX9_tick 3 = .ok (.invokevirtual 185, 3) := by decide +kernel
theorem dX9_tick_6 : decode cX9_tick 6 = .ok (.ireturn, 1) := by decide +kernel
set_option maxRecDepth 20000 in
theorem ggX9_ticks_X9_isSet : GoodIn wsX9_ticks wsX9_isSet := goodIn_r _ [5, 6, 7, 4, 8] (by decide +kernel) (by decide +kernel)
set_option maxRecDepth 20000 in
theorem gX9_ticks_X9_isSet : GoodIn wsX9_ticks (va_wsS RX9 187 yX9_isSet wsX9_isSet) := goodIn_app (goodIn_of _ (by decide +kernel)) ggX9_ticks_X9_isSet
set_option maxRecDepth 20000 in
theorem ggX9_ticks_X9_within : GoodIn wsX9_ticks wsX9_within := goodIn_r _ [8] (by decide +kernel) (by decide +kernel)
set_option maxRecDepth 20000 in
theorem gX9_ticks_X9_within : GoodIn wsX9_ticks (va_wsS RX9 66 yX9_within wsX9_within) := goodIn_app (goodIn_of _ (by decide +kernel)) ggX9_ticks_X9_within
set_option maxRecDepth 20000 in
theorem ggX9_ticks_X9_tickBy : GoodIn wsX9_ticks wsX9_tickBy := goodIn_r _ [12, 13, 14, 15, 16, 17, 18, 19, 20, 21, 1, 22, 23, 24, 4, 25, 26, 27, 28, 29, 30, 31, 32, 33, 34, 35, 36, 37, 38, 39, 40, 41, 42, 43, 44, 45, 46, 47, 48, 49, 50, 51, 52, 53, 54, 55, 56, 57, 58, 59, 60, 61, 62, 63, 64, 65, 66, 67, 68, 69, 70, 83, 84, 85, 86, 87, 88, 89, 90, 91, 92, 93, 94, 95, 96, 97, 98, 99, 100, 101, 102, 103, 104, 105, 106, 107, 108, 109, 110, 111, 112, 113, 114, 115, 116, 117, 118, 119, 120, 121, 122] (by decide +kernel) (by decide +kernel)
set_option maxRecDepth 20000 in
theorem gX9_ticks_X9_tickBy : GoodIn wsX9_ticks (wsV RX9 191 RX9 yX9_tickBy wsX9_tickBy) := goodIn_app (goodIn_of _ (by decide +kernel)) ggX9_ticks_X9_tickBy
set_option maxRecDepth 20000 in
theorem ggX9_ticks_X9_notes : GoodIn wsX9_ticks wsX9_notes := goodIn_r _ [74, 75, 76, 67, 77, 68, 78, 1, 53, 79, 80, 56, 81, 82, 83, 84, 85, 86, 87, 88, 89, 90, 91, 92, 93, 94, 95, 96, 97, 98, 99, 100, 101, 102, 103, 104, 105, 106, 107, 108, 109, 110, 111, 112, 113, 114, 115, 116, 117, 118, 119, 120, 121, 122] (by decide +kernel) (by decide +kernel)
set_option maxRecDepth 20000 in
theorem gX9_ticks_X9_notes : GoodIn wsX9_ticks (wsV RX9 195 RX9 yX9_notes wsX9_notes) := goodIn_app (goodIn_of _ (by decide +kernel)) ggX9_ticks_X9_notes
theorem dX9_ticks_0 : decode cX9_ticks 0 = .ok (.iload_n 1, 1) := by decide +kernel
theorem dX9_ticks_1 : decode cX9_ticks 1 = .ok (.invokestatic 187, 3) := by decide +kernel
theorem dX9_ticks_4 : decode cX9_ticks 4 = .ok (.ifCond .eq 13, 3) := by decide +kernel
theorem dX9_ticks_7 : decode cX9_ticks 7 = .ok (.iload_n 2, 1) := by decide +kernel
theorem dX9_ticks_8 : decode cX9_ticks 8 = .ok (.iconst 0, 1) := by decide +kernel
theorem dX9_ticks_9 : decode cX9_ticks 9 = .ok (.bipush 60, 2) := by decide +kernel
theorem dX9_ticks_11 : decode cX9_ticks 11 = .ok (.invokestatic 66, 3) := by decide +kernel
theorem dX9_ticks_14 : decode cX9_ticks 14 = .ok (.ifCond .ne 6, 3) := by decide +kernel
theorem dX9_ticks_17 : decode cX9_ticks 17 = .ok (.bipush (-2), 2) := by decide +kernel
theorem dX9_ticks_19 : decode cX9_ticks 19 = .ok (.ireturn, 1) := by decide +kernel
theorem dX9_ticks_20 : decode cX9_ticks 20 = .ok (.iconst 0, 1) := by decide +kernel
theorem dX9_ticks_21 : decode cX9_ticks 21 = .ok (.istore_n 3, 1) := by decide +kernel
theorem dX9_ticks_22 : decode cX9_ticks 22 = .ok (.iload_n 3, 1) := by decide +kernel
theorem dX9_ticks_23 : decode cX9_ticks 23 = .ok (.iload_n 2, 1) := by decide +kernel
theorem dX9_ticks_24 : decode cX9_ticks 24 = .ok (.if_icmp .ge 26, 3) := by decide +kernel
theorem dX9_ticks_27 : decode cX9_ticks 27 = .ok (.aload_n 0, 1) := by decide +kernel
theorem dX9_ticks_28 : decode cX9_ticks 28 = .ok (.getfield 32, 3) := by decide +kernel
theorem dX9_ticks_31 : decode cX9_ticks 31 = .ok (.istore 4, 2) := by decide +kernel
theorem dX9_ticks_33 : decode cX9_ticks 33 = .ok (.aload_n 0, 1) := by decide +kernel
theorem dX9_ticks_34 : decode cX9_ticks 34 = .ok (.iload_n 1, 1) := by decide +kernel
theorem dX9_ticks_35 : decode cX9_ticks 35 = .ok (.invokevirtual 191, 3) := by decide +kernel
theorem dX9_ticks_38 : decode cX9_ticks 38 = .ok (.aload_n 0, 1) := by decide +kernel
theorem dX9_ticks_39 : decode cX9_ticks 39 = .ok (.iload 4, 2) := by decide +kernel
theorem dX9_ticks_41 : decode cX9_ticks 41 = .ok (.invokevirtual 195, 3) := by decide +kernel
theorem dX9_ticks_44 : decode cX9_ticks 44 = .ok (.iinc 3 1, 3) := by decide +kernel
theorem dX9_ticks_47 : decode cX9_ticks 47 = .ok (.goto (-25), 3) := by decide +kernel
theorem dX9_ticks_50 : decode cX9_ticks 50 = .ok (.aload_n 0, 1) := by decide +kernel
theorem dX9_ticks_51 : decode cX9_ticks 51 = .ok (.getfield 32, 3) := by decide +kernel
theorem dX9_ticks_54 : decode cX9_ticks 54 = .ok (.ireturn, 1) := by decide +kernel
theorem dX9_now_0 : decode cX9_now 0 = .ok (.iload_n 1, 1) := by decide +kernel
theorem dX9_now_1 : decode cX9_now 1 = .ok (.tableswitch 135 0 13 #[71, 76, 81, 86, 91, 96, 96, 96, 105, 110, 115, 120, 125, 130], 71) := by decide +kernel
theorem dX9_now_72 : decode cX9_now 72 = .ok (.aload_n 0, 1) := by decide +kernel
theorem dX9_now_73 : decode cX9_now 73 = .ok (.getfield 32, 3) := by decide +kernel
theorem dX9_now_76 : decode cX9_now 76 = .ok (.ireturn, 1) := by decide +kernel
theorem dX9_now_77 : decode cX9_now 77 = .ok (.aload_n 0, 1) := by decide +kernel
theorem dX9_now_78 : decode cX9_now 78 = .ok (.getfield 74, 3) := by decide +kernel
theorem dX9_now_81 : decode cX9_now 81 = .ok (.ireturn, 1) := by decide +kernel
theorem dX9_now_82 : decode cX9_now 82 = .ok (.aload_n 0, 1) := by decide +kernel
theorem dX9_now_83 : decode cX9_now 83 = .ok (.getfield 77, 3) := by decide +kernel
theorem dX9_now_86 : decode cX9_now 86 = .ok (.ireturn, 1) := by decide +kernel
theorem dX9_now_87 : decode cX9_now 87 = .ok (.aload_n 0, 1) := by decide +kernel
theorem dX9_now_88 : decode cX9_now 88 = .ok (.getfield 86, 3) := by decide +kernel
theorem dX9_now_91 : decode cX9_now 91 = .ok (.ireturn, 1) := by decide +kernel
theorem dX9_now_92 : decode cX9_now 92 = .ok (.aload_n 0, 1) := by decide +kernel
theorem dX9_now_93 : decode cX9_now 93 = .ok (.getfield 100, 3) := by decide +kernel
theorem dX9_now_96 : decode cX9_now 96 = .ok (.ireturn, 1) := by decide +kernel
theorem dX9_now_97 : decode cX9_now 97 = .ok (.aload_n 0, 1) := by decide +kernel
theorem dX9_now_98 : decode cX9_now 98 = .ok (.getfield 35, 3) := by decide +kernel
theorem dX9_now_101 : decode cX9_now 101 = .ok (.iload_n 1, 1) := by decide +kernel
theorem dX9_now_102 : decode cX9_now 102 = .ok (.iconst 5, 1) := by decide +kernel
theorem dX9_now_103 : decode cX9_now 103 = .ok (.isub, 1) := by decide +kernel
theorem dX9_now_104 : decode cX9_now 104 = .ok (.iaload, 1) := by decide +kernel
theorem dX9_now_105 : decode cX9_now 105 = .ok (.ireturn, 1) := by decide +kernel
theorem dX9_now_106 : decode cX9_now 106 = .ok (.aload_n 0, 1) := by decide +kernel
theorem dX9_now_107 : decode cX9_now 107 = .ok (.getfield 83, 3) := by decide +kernel
theorem dX9_now_110 : decode cX9_now 110 = .ok (.ireturn, 1) := by decide +kernel
theorem dX9_now_111 : decode cX9_now 111 = .ok (.aload_n 0, 1) := by decide +kernel
theorem dX9_now_112 : decode cX9_now 112 = .ok (.getfield 80, 3) := by decide +kernel
theorem dX9_now_115 : decode cX9_now 115 = .ok (.ireturn, 1) := by decide +kernel
theorem dX9_now_116 : decode cX9_now 116 = .ok (.aload_n 0, 1) := by decide +kernel
theorem dX9_now_117 : decode cX9_now 117 = .ok (.getfield 130, 3) := by decide +kernel
theorem dX9_now_120 : decode cX9_now 120 = .ok (.ireturn, 1) := by decide +kernel
theorem dX9_now_121 : decode cX9_now 121 = .ok (.aload_n 0, 1) := by decide +kernel
theorem dX9_now_122 : decode cX9_now 122 = .ok (.getfield 142, 3) := by decide +kernel
theorem dX9_now_125 : decode cX9_now 125 = .ok (.ireturn, 1) := by decide +kernel
theorem dX9_now_126 : decode cX9_now 126 = .ok (.aload_n 0, 1) := by decide +kernel
theorem dX9_now_127 : decode cX9_now 127 = .ok (.getfield 113, 3) := by decide +kernel
theorem dX9_now_130 : decode cX9_now 130 = .ok (.ireturn, 1) := by decide +kernel
theorem dX9_now_131 : decode cX9_now 131 = .ok (.aload_n 0, 1) := by decide +kernel
theorem dX9_now_132 : decode cX9_now 132 = .ok (.getfield 38, 3) := by decide +kernel
theorem dX9_now_135 : decode cX9_now 135 = .ok (.ireturn, 1) := by decide +kernel
theorem dX9_now_136 : decode cX9_now 136 = .ok (.bipush (-2), 2) := by decide +kernel
theorem dX9_now_138 : decode cX9_now 138 = .ok (.ireturn, 1) := by decide +kernel
theorem dX9_setting_0 : decode cX9_setting 0 = .ok (.iload_n 1, 1) := by decide +kernel
theorem dX9_setting_1 : decode cX9_setting 1 = .ok (.tableswitch 60 0 4 #[35, 40, 45, 50, 55], 35) := by decide +kernel
theorem dX9_setting_36 : decode cX9_setting 36 = .ok (.aload_n 0, 1) := by decide +kernel
theorem dX9_setting_37 : decode cX9_setting 37 = .ok (.getfield 7, 3) := by decide +kernel
theorem dX9_setting_40 : decode cX9_setting 40 = .ok (.ireturn, 1) := by decide +kernel
theorem dX9_setting_41 : decode cX9_setting 41 = .ok (.aload_n 0, 1) := by decide +kernel
theorem dX9_setting_42 : decode cX9_setting 42 = .ok (.getfield 13, 3) := by decide +kernel
theorem dX9_setting_45 : decode cX9_setting 45 = .ok (.ireturn, 1) := by decide +kernel
theorem dX9_setting_46 : decode cX9_setting 46 = .ok (.aload_n 0, 1) := by decide +kernel
theorem dX9_setting_47 : decode cX9_setting 47 = .ok (.getfield 16, 3) := by decide +kernel
theorem dX9_setting_50 : decode cX9_setting 50 = .ok (.ireturn, 1) := by decide +kernel
theorem dX9_setting_51 : decode cX9_setting 51 = .ok (.aload_n 0, 1) := by decide +kernel
theorem dX9_setting_52 : decode cX9_setting 52 = .ok (.getfield 19, 3) := by decide +kernel
theorem dX9_setting_55 : decode cX9_setting 55 = .ok (.ireturn, 1) := by decide +kernel
theorem dX9_setting_56 : decode cX9_setting 56 = .ok (.aload_n 0, 1) := by decide +kernel
theorem dX9_setting_57 : decode cX9_setting 57 = .ok (.getfield 22, 3) := by decide +kernel
theorem dX9_setting_60 : decode cX9_setting 60 = .ok (.ireturn, 1) := by decide +kernel
theorem dX9_setting_61 : decode cX9_setting 61 = .ok (.bipush (-2), 2) := by decide +kernel
theorem dX9_setting_63 : decode cX9_setting 63 = .ok (.ireturn, 1) := by decide +kernel
set_option maxRecDepth 20000 in
theorem ggX9_leadsTo_X9_within : GoodIn wsX9_leadsTo wsX9_within := goodIn_r _ [6] (by decide +kernel) (by decide +kernel)
set_option maxRecDepth 20000 in
theorem gX9_leadsTo_X9_within : GoodIn wsX9_leadsTo (va_wsS RX9 66 yX9_within wsX9_within) := goodIn_app (goodIn_of _ (by decide +kernel)) ggX9_leadsTo_X9_within
set_option maxRecDepth 20000 in
theorem ggX9_leadsTo_X9_stateOf : GoodIn wsX9_leadsTo wsX9_stateOf := goodIn_r _ [10, 2, 11, 12, 13, 14, 15, 16, 17, 18, 19, 20, 21, 22, 23, 24, 25, 86, 87, 88, 89, 90, 91, 92, 93, 94, 95, 96, 97, 98, 99, 100, 101, 102, 103, 104, 105, 106, 107, 108, 109, 110, 111, 112, 113, 114, 115, 116, 117, 118, 119, 120, 121, 122, 123, 124, 125] (by decide +kernel) (by decide +kernel)
set_option maxRecDepth 20000 in
theorem gX9_leadsTo_X9_stateOf : GoodIn wsX9_leadsTo (wsV RX9 198 RX9 yX9_stateOf wsX9_stateOf) := goodIn_app (goodIn_of _ (by decide +kernel)) ggX9_leadsTo_X9_stateOf
set_option maxRecDepth 20000 in
theorem ggX9_leadsTo_X9_tickBy : GoodIn wsX9_leadsTo wsX9_tickBy := goodIn_r _ [29, 19, 16, 18, 30, 12, 14, 22, 20, 25, 2, 31, 32, 33, 5, 34, 35, 36, 37, 38, 39, 40, 41, 42, 43, 44, 45, 46, 47, 48, 49, 50, 51, 52, 53, 54, 55, 56, 57, 58, 59, 60, 61, 62, 1, 23, 63, 64, 65, 66, 67, 68, 69, 70, 71, 72, 73, 74, 75, 76, 24, 86, 87, 88, 89, 90, 91, 92, 93, 94, 95, 96, 97, 98, 99, 100, 101, 102, 103, 104, 105, 106, 107, 108, 109, 110, 111, 112, 113, 114, 115, 116, 117, 118, 119, 120, 121, 122, 123, 124, 125] (by decide +kernel) (by decide +kernel)
set_option maxRecDepth 20000 in
theorem gX9_leadsTo_X9_tickBy : GoodIn wsX9_leadsTo (wsV RX9 191 RX9 yX9_tickBy wsX9_tickBy) := goodIn_app (goodIn_of _ (by decide +kernel)) ggX9_leadsTo_X9_tickBy
set_option maxRecDepth 20000 in
theorem ggX9_leadsTo_X9_becomes : GoodIn wsX9_leadsTo wsX9_becomes := goodIn_r _ [80, 81, 21, 25, 11, 24, 17, 23, 22, 13, 20, 19, 18, 15, 16, 14, 12, 2, 1, 82, 83, 84, 5, 85, 86, 87, 88, 89, 90, 91, 92, 93, 94, 95, 96, 97, 98, 99, 100, 101, 102, 103, 104, 105, 106, 107, 108, 109, 110, 111, 112, 113, 114, 115, 116, 117, 118, 119, 120, 121, 122, 123, 124, 125] (by decide +kernel) (by decide +kernel)
set_option maxRecDepth 20000 in
theorem gX9_leadsTo_X9_becomes : GoodIn wsX9_leadsTo (wsV RX9 163 RX9 yX9_becomes wsX9_becomes) := goodIn_app (goodIn_of _ (by decide +kernel)) ggX9_leadsTo_X9_becomes
theorem dX9_leadsTo_0 : decode cX9_leadsTo 0 = .ok (.iload_n 1, 1) := by decide +kernel
theorem dX9_leadsTo_1 : decode cX9_leadsTo 1 = .ok (.iconst 0, 1) := by decide +kernel
theorem dX9_leadsTo_2 : decode cX9_leadsTo 2 = .ok (.iconst 4, 1) := by decide +kernel
theorem dX9_leadsTo_3 : decode cX9_leadsTo 3 = .ok (.invokestatic 66, 3) := by decide +kernel
theorem dX9_leadsTo_6 : decode cX9_leadsTo 6 = .ok (.ifCond .ne 6, 3) := by decide +kernel
theorem dX9_leadsTo_9 : decode cX9_leadsTo 9 = .ok (.bipush (-2), 2) := by decide +kernel
theorem dX9_leadsTo_11 : decode cX9_leadsTo 11 = .ok (.ireturn, 1) := by decide +kernel
theorem dX9_leadsTo_12 : decode cX9_leadsTo 12 = .ok (.aload_n 0, 1) := by decide +kernel
theorem dX9_leadsTo_13 : decode cX9_leadsTo 13 = .ok (.invokevirtual 198, 3) := by decide +kernel
theorem dX9_leadsTo_16 : decode cX9_leadsTo 16 = .ok (.lstore_n 2, 1) := by decide +kernel
theorem dX9_leadsTo_17 : decode cX9_leadsTo 17 = .ok (.aload_n 0, 1) := by decide +kernel
theorem dX9_leadsTo_18 : decode cX9_leadsTo 18 = .ok (.getfield 38, 3) := by decide +kernel
theorem dX9_leadsTo_21 : decode cX9_leadsTo 21 = .ok (.istore 4, 2) := by decide +kernel
theorem dX9_leadsTo_23 : decode cX9_leadsTo 23 = .ok (.bipush (-9), 2) := by decide +kernel
theorem dX9_leadsTo_25 : decode cX9_leadsTo 25 = .ok (.istore 5, 2) := by decide +kernel
theorem dX9_leadsTo_27 : decode cX9_leadsTo 27 = .ok (.iconst 0, 1) := by decide +kernel
theorem dX9_leadsTo_28 : decode cX9_leadsTo 28 = .ok (.istore 6, 2) := by decide +kernel
theorem dX9_leadsTo_30 : decode cX9_leadsTo 30 = .ok (.iload 6, 2) := by decide +kernel
theorem dX9_leadsTo_32 : decode cX9_leadsTo 32 = .ok (.sipush 512, 3) := by decide +kernel
theorem dX9_leadsTo_35 : decode cX9_leadsTo 35 = .ok (.if_icmp .ge 46, 3) := by decide +kernel
theorem dX9_leadsTo_38 : decode cX9_leadsTo 38 = .ok (.iload 5, 2) := by decide +kernel
theorem dX9_leadsTo_40 : decode cX9_leadsTo 40 = .ok (.bipush (-9), 2) := by decide +kernel
theorem dX9_leadsTo_42 : decode cX9_leadsTo 42 = .ok (.if_icmp .ne 39, 3) := by decide +kernel
theorem dX9_leadsTo_45 : decode cX9_leadsTo 45 = .ok (.aload_n 0, 1) := by decide +kernel
theorem dX9_leadsTo_46 : decode cX9_leadsTo 46 = .ok (.iload 6, 2) := by decide +kernel
theorem dX9_leadsTo_48 : decode cX9_leadsTo 48 = .ok (.invokevirtual 191, 3) := by decide +kernel
theorem dX9_leadsTo_51 : decode cX9_leadsTo 51 = .ok (.aload_n 0, 1) := by decide +kernel
theorem dX9_leadsTo_52 : decode cX9_leadsTo 52 = .ok (.getfield 32, 3) := by decide +kernel
theorem dX9_leadsTo_55 : decode cX9_leadsTo 55 = .ok (.iload_n 1, 1) := by decide +kernel
theorem dX9_leadsTo_56 : decode cX9_leadsTo 56 = .ok (.if_icmp .ne 8, 3) := by decide +kernel
theorem dX9_leadsTo_59 : decode cX9_leadsTo 59 = .ok (.iload 6, 2) := by decide +kernel
theorem dX9_leadsTo_61 : decode cX9_leadsTo 61 = .ok (.goto 5, 3) := by decide +kernel
theorem dX9_leadsTo_64 : decode cX9_leadsTo 64 = .ok (.bipush (-9), 2) := by decide +kernel
theorem dX9_leadsTo_66 : decode cX9_leadsTo 66 = .ok (.istore 5, 2) := by decide +kernel
theorem dX9_leadsTo_68 : decode cX9_leadsTo 68 = .ok (.aload_n 0, 1) := by decide +kernel
theorem dX9_leadsTo_69 : decode cX9_leadsTo 69 = .ok (.lload_n 2, 1) := by decide +kernel
theorem dX9_leadsTo_70 : decode cX9_leadsTo 70 = .ok (.iload 4, 2) := by decide +kernel
theorem dX9_leadsTo_72 : decode cX9_leadsTo 72 = .ok (.invokevirtual 163, 3) := by decide +kernel
theorem dX9_leadsTo_75 : decode cX9_leadsTo 75 = .ok (.iinc 6 1, 3) := by decide +kernel
theorem dX9_leadsTo_78 : decode cX9_leadsTo 78 = .ok (.goto (-48), 3) := by decide +kernel
theorem dX9_leadsTo_81 : decode cX9_leadsTo 81 = .ok (.iload 5, 2) := by decide +kernel
theorem dX9_leadsTo_83 : decode cX9_leadsTo 83 = .ok (.ireturn, 1) := by decide +kernel
set_option maxRecDepth 20000 in
theorem ggX9_locked_X9_within : GoodIn wsX9_locked wsX9_within := goodIn_r _ [5] (by decide +kernel) (by decide +kernel)
set_option maxRecDepth 20000 in
theorem gX9_locked_X9_within : GoodIn wsX9_locked (va_wsS RX9 66 yX9_within wsX9_within) := goodIn_app (goodIn_of _ (by decide +kernel)) ggX9_locked_X9_within
end
section
theorem dX9_locked_0 : decode cX9_locked 0 = .ok (.iload_n 1, 1) := by decide +kernel
theorem dX9_locked_1 : decode cX9_locked 1 = .ok (.iconst 1, 1) := by decide +kernel
theorem dX9_locked_2 : decode cX9_locked 2 = .ok (.iconst 5, 1) := by decide +kernel
theorem dX9_locked_3 : decode cX9_locked 3 = .ok (.invokestatic 66, 3) := by decide +kernel
theorem dX9_locked_6 : decode cX9_locked 6 = .ok (.ifCond .ne 5, 3) := by decide +kernel
theorem dX9_locked_9 : decode cX9_locked 9 = .ok (.iconst (-1), 1) := by decide +kernel
theorem dX9_locked_10 : decode cX9_locked 10 = .ok (.ireturn, 1) := by decide +kernel
theorem dX9_locked_11 : decode cX9_locked 11 = .ok (.iload_n 2, 1) := by decide +kernel
theorem dX9_locked_12 : decode cX9_locked 12 = .ok (.bipush (-9), 2) := by decide +kernel
theorem dX9_locked_14 : decode cX9_locked 14 = .ok (.if_icmp .eq 16, 3) := by decide +kernel
theorem dX9_locked_17 : decode cX9_locked 17 = .ok (.iload_n 2, 1) := by decide +kernel
theorem dX9_locked_18 : decode cX9_locked 18 = .ok (.iconst 0, 1) := by decide +kernel
theorem dX9_locked_19 : decode cX9_locked 19 = .ok (.bipush 17, 2) := by decide +kernel
theorem dX9_locked_21 : decode cX9_locked 21 = .ok (.invokestatic 66, 3) := by decide +kernel
theorem dX9_locked_24 : decode cX9_locked 24 = .ok (.ifCond .ne 6, 3) := by decide +kernel
theorem dX9_locked_27 : decode cX9_locked 27 = .ok (.bipush (-2), 2) := by decide +kernel
theorem dX9_locked_29 : decode cX9_locked 29 = .ok (.ireturn, 1) := by decide +kernel
theorem dX9_locked_30 : decode cX9_locked 30 = .ok (.iconst 0, 1) := by decide +kernel
theorem dX9_locked_31 : decode cX9_locked 31 = .ok (.istore_n 3, 1) := by decide +kernel
theorem dX9_locked_32 : decode cX9_locked 32 = .ok (.iconst 0, 1) := by decide +kernel
theorem dX9_locked_33 : decode cX9_locked 33 = .ok (.istore 4, 2) := by decide +kernel
theorem dX9_locked_35 : decode cX9_locked 35 = .ok (.iload 4, 2) := by decide +kernel
theorem dX9_locked_37 : decode cX9_locked 37 = .ok (.bipush 18, 2) := by decide +kernel
theorem dX9_locked_39 : decode cX9_locked 39 = .ok (.if_icmp .ge 42, 3) := by decide +kernel
theorem dX9_locked_42 : decode cX9_locked 42 = .ok (.iload_n 3, 1) := by decide +kernel
theorem dX9_locked_43 : decode cX9_locked 43 = .ok (.iload_n 2, 1) := by decide +kernel
theorem dX9_locked_44 : decode cX9_locked 44 = .ok (.bipush (-9), 2) := by decide +kernel
theorem dX9_locked_46 : decode cX9_locked 46 = .ok (.if_icmp .eq 9, 3) := by decide +kernel
theorem dX9_locked_49 : decode cX9_locked 49 = .ok (.iload_n 2, 1) := by decide +kernel
theorem dX9_locked_50 : decode cX9_locked 50 = .ok (.iload 4, 2) := by decide +kernel
theorem dX9_locked_52 : decode cX9_locked 52 = .ok (.if_icmp .ne 20, 3) := by decide +kernel
theorem dX9_locked_55 : decode cX9_locked 55 = .ok (.aload_n 0, 1) := by decide +kernel
theorem dX9_locked_56 : decode cX9_locked 56 = .ok (.getfield 41, 3) := by decide +kernel
theorem dX9_locked_59 : decode cX9_locked 59 = .ok (.bipush 18, 2) := by decide +kernel
theorem dX9_locked_61 : decode cX9_locked 61 = .ok (.iload_n 1, 1) := by decide +kernel
theorem dX9_locked_62 : decode cX9_locked 62 = .ok (.iconst 1, 1) := by decide +kernel
theorem dX9_locked_63 : decode cX9_locked 63 = .ok (.isub, 1) := by decide +kernel
theorem dX9_locked_64 : decode cX9_locked 64 = .ok (.imul, 1) := by decide +kernel
theorem dX9_locked_65 : decode cX9_locked 65 = .ok (.iload 4, 2) := by decide +kernel
theorem dX9_locked_67 : decode cX9_locked 67 = .ok (.iadd, 1) := by decide +kernel
theorem dX9_locked_68 : decode cX9_locked 68 = .ok (.iaload, 1) := by decide +kernel
theorem dX9_locked_69 : decode cX9_locked 69 = .ok (.goto 4, 3) := by decide +kernel
theorem dX9_locked_72 : decode cX9_locked 72 = .ok (.iconst 0, 1) := by decide +kernel
theorem dX9_locked_73 : decode cX9_locked 73 = .ok (.iadd, 1) := by decide +kernel
theorem dX9_locked_74 : decode cX9_locked 74 = .ok (.istore_n 3, 1) := by decide +kernel
theorem dX9_locked_75 : decode cX9_locked 75 = .ok (.iinc 4 1, 3) := by decide +kernel
theorem dX9_locked_78 : decode cX9_locked 78 = .ok (.goto (-43), 3) := by decide +kernel
theorem dX9_locked_81 : decode cX9_locked 81 = .ok (.iload_n 3, 1) := by decide +kernel
theorem dX9_locked_82 : decode cX9_locked 82 = .ok (.ireturn, 1) := by decide +kernel
set_option maxRecDepth 20000 in
theorem ggX9_cause_X9_within : GoodIn wsX9_cause wsX9_within := goodIn_r _ [6] (by decide +kernel) (by decide +kernel)
set_option maxRecDepth 20000 in
theorem gX9_cause_X9_within : GoodIn wsX9_cause (va_wsS RX9 66 yX9_within wsX9_within) := goodIn_app (goodIn_of _ (by decide +kernel)) ggX9_cause_X9_within
theorem dX9_cause_0 : decode cX9_cause 0 = .ok (.iload_n 1, 1) := by decide +kernel
theorem dX9_cause_1 : decode cX9_cause 1 = .ok (.iconst 0, 1) := by decide +kernel
theorem dX9_cause_2 : decode cX9_cause 2 = .ok (.iconst 4, 1) := by decide +kernel
theorem dX9_cause_3 : decode cX9_cause 3 = .ok (.invokestatic 66, 3) := by decide +kernel
theorem dX9_cause_6 : decode cX9_cause 6 = .ok (.ifCond .ne 6, 3) := by decide +kernel
theorem dX9_cause_9 : decode cX9_cause 9 = .ok (.bipush (-2), 2) := by decide +kernel
theorem dX9_cause_11 : decode cX9_cause 11 = .ok (.ireturn, 1) := by decide +kernel
theorem dX9_cause_12 : decode cX9_cause 12 = .ok (.iload_n 1, 1) := by decide +kernel
theorem dX9_cause_13 : decode cX9_cause 13 = .ok (.aload_n 0, 1) := by decide +kernel
theorem dX9_cause_14 : decode cX9_cause 14 = .ok (.getfield 182, 3) := by decide +kernel
theorem dX9_cause_17 : decode cX9_cause 17 = .ok (.if_icmp .ge 12, 3) := by decide +kernel
theorem dX9_cause_20 : decode cX9_cause 20 = .ok (.aload_n 0, 1) := by decide +kernel
theorem dX9_cause_21 : decode cX9_cause 21 = .ok (.getfield 44, 3) := by decide +kernel
theorem dX9_cause_24 : decode cX9_cause 24 = .ok (.iload_n 1, 1) := by decide +kernel
theorem dX9_cause_25 : decode cX9_cause 25 = .ok (.iaload, 1) := by decide +kernel
theorem dX9_cause_26 : decode cX9_cause 26 = .ok (.goto 5, 3) := by decide +kernel
theorem dX9_cause_29 : decode cX9_cause 29 = .ok (.bipush (-9), 2) := by decide +kernel
theorem dX9_cause_31 : decode cX9_cause 31 = .ok (.ireturn, 1) := by decide +kernel
set_option maxRecDepth 20000 in
theorem ggX9_followed_X9_within : GoodIn wsX9_followed wsX9_within := goodIn_r _ [5] (by decide +kernel) (by decide +kernel)
set_option maxRecDepth 20000 in
theorem gX9_followed_X9_within : GoodIn wsX9_followed (va_wsS RX9 66 yX9_within wsX9_within) := goodIn_app (goodIn_of _ (by decide +kernel)) ggX9_followed_X9_within
theorem dX9_followed_0 : decode cX9_followed 0 = .ok (.iload_n 1, 1) := by decide +kernel
theorem dX9_followed_1 : decode cX9_followed 1 = .ok (.iconst 0, 1) := by decide +kernel
theorem dX9_followed_2 : decode cX9_followed 2 = .ok (.iconst 4, 1) := by decide +kernel
theorem dX9_followed_3 : decode cX9_followed 3 = .ok (.invokestatic 66, 3) := by decide +kernel
theorem dX9_followed_6 : decode cX9_followed 6 = .ok (.ifCond .eq 12, 3) := by decide +kernel
theorem dX9_followed_9 : decode cX9_followed 9 = .ok (.aload_n 0, 1) := by decide +kernel
theorem dX9_followed_10 : decode cX9_followed 10 = .ok (.getfield 47, 3) := by decide +kernel
theorem dX9_followed_13 : decode cX9_followed 13 = .ok (.iload_n 1, 1) := by decide +kernel
theorem dX9_followed_14 : decode cX9_followed 14 = .ok (.iaload, 1) := by decide +kernel
theorem dX9_followed_15 : decode cX9_followed 15 = .ok (.goto 5, 3) := by decide +kernel
theorem dX9_followed_18 : decode cX9_followed 18 = .ok (.bipush (-2), 2) := by decide +kernel
theorem dX9_followed_20 : decode cX9_followed 20 = .ok (.ireturn, 1) := by decide +kernel
theorem dX9_places_0 : decode cX9_places 0 = .ok (.iconst 0, 1) := by decide +kernel
theorem dX9_places_1 : decode cX9_places 1 = .ok (.istore_n 1, 1) := by decide +kernel
theorem dX9_places_2 : decode cX9_places 2 = .ok (.iconst 0, 1) := by decide +kernel
theorem dX9_places_3 : decode cX9_places 3 = .ok (.istore_n 2, 1) := by decide +kernel
theorem dX9_places_4 : decode cX9_places 4 = .ok (.iload_n 2, 1) := by decide +kernel
theorem dX9_places_5 : decode cX9_places 5 = .ok (.bipush 18, 2) := by decide +kernel
theorem dX9_places_7 : decode cX9_places 7 = .ok (.if_icmp .ge 53, 3) := by decide +kernel
theorem dX9_places_10 : decode cX9_places 10 = .ok (.iconst 0, 1) := by decide +kernel
theorem dX9_places_11 : decode cX9_places 11 = .ok (.istore_n 3, 1) := by decide +kernel
theorem dX9_places_12 : decode cX9_places 12 = .ok (.iconst 0, 1) := by decide +kernel
theorem dX9_places_13 : decode cX9_places 13 = .ok (.istore 4, 2) := by decide +kernel
theorem dX9_places_15 : decode cX9_places 15 = .ok (.iload 4, 2) := by decide +kernel
theorem dX9_places_17 : decode cX9_places 17 = .ok (.iconst 5, 1) := by decide +kernel
theorem dX9_places_18 : decode cX9_places 18 = .ok (.if_icmp .ge 24, 3) := by decide +kernel
theorem dX9_places_21 : decode cX9_places 21 = .ok (.iload_n 3, 1) := by decide +kernel
theorem dX9_places_22 : decode cX9_places 22 = .ok (.aload_n 0, 1) := by decide +kernel
theorem dX9_places_23 : decode cX9_places 23 = .ok (.getfield 41, 3) := by decide +kernel
theorem dX9_places_26 : decode cX9_places 26 = .ok (.bipush 18, 2) := by decide +kernel
theorem dX9_places_28 : decode cX9_places 28 = .ok (.iload 4, 2) := by decide +kernel
theorem dX9_places_30 : decode cX9_places 30 = .ok (.imul, 1) := by decide +kernel
theorem dX9_places_31 : decode cX9_places 31 = .ok (.iload_n 2, 1) := by decide +kernel
theorem dX9_places_32 : decode cX9_places 32 = .ok (.iadd, 1) := by decide +kernel
theorem dX9_places_33 : decode cX9_places 33 = .ok (.iaload, 1) := by decide +kernel
theorem dX9_places_34 : decode cX9_places 34 = .ok (.iadd, 1) := by decide +kernel
theorem dX9_places_35 : decode cX9_places 35 = .ok (.istore_n 3, 1) := by decide +kernel
theorem dX9_places_36 : decode cX9_places 36 = .ok (.iinc 4 1, 3) := by decide +kernel
theorem dX9_places_39 : decode cX9_places 39 = .ok (.goto (-24), 3) := by decide +kernel
theorem dX9_places_42 : decode cX9_places 42 = .ok (.iload_n 1, 1) := by decide +kernel
theorem dX9_places_43 : decode cX9_places 43 = .ok (.iload_n 3, 1) := by decide +kernel
theorem dX9_places_44 : decode cX9_places 44 = .ok (.ifCond .le 7, 3) := by decide +kernel
theorem dX9_places_47 : decode cX9_places 47 = .ok (.iconst 1, 1) := by decide +kernel
theorem dX9_places_48 : decode cX9_places 48 = .ok (.goto 4, 3) := by decide +kernel
theorem dX9_places_51 : decode cX9_places 51 = .ok (.iconst 0, 1) := by decide +kernel
theorem dX9_places_52 : decode cX9_places 52 = .ok (.iadd, 1) := by decide +kernel
theorem dX9_places_53 : decode cX9_places 53 = .ok (.istore_n 1, 1) := by decide +kernel
theorem dX9_places_54 : decode cX9_places 54 = .ok (.iinc 2 1, 3) := by decide +kernel
theorem dX9_places_57 : decode cX9_places 57 = .ok (.goto (-53), 3) := by decide +kernel
theorem dX9_places_60 : decode cX9_places 60 = .ok (.iload_n 1, 1) := by decide +kernel
theorem dX9_places_61 : decode cX9_places 61 = .ok (.ireturn, 1) := by decide +kernel
set_option maxRecDepth 20000 in
theorem ggX9_step_X9_isSet : GoodIn wsX9_step wsX9_isSet := goodIn_r _ [6, 7, 8, 5, 9] (by decide +kernel) (by decide +kernel)
set_option maxRecDepth 20000 in
theorem gX9_step_X9_isSet : GoodIn wsX9_step (va_wsS RX9 187 yX9_isSet wsX9_isSet) := goodIn_app (goodIn_of _ (by decide +kernel)) ggX9_step_X9_isSet
theorem dX9_step_0 : decode cX9_step 0 = .ok (.iload_n 1, 1) := by decide +kernel
theorem dX9_step_1 : decode cX9_step 1 = .ok (.invokestatic 187, 3) := by decide +kernel
theorem dX9_step_4 : decode cX9_step 4 = .ok (.ifCond .ne 6, 3) := by decide +kernel
theorem dX9_step_7 : decode cX9_step 7 = .ok (.bipush (-2), 2) := by decide +kernel
theorem dX9_step_9 : decode cX9_step 9 = .ok (.ireturn, 1) := by decide +kernel
theorem dX9_step_10 : decode cX9_step 10 = .ok (.aload_n 0, 1) := by decide +kernel
theorem dX9_step_11 : decode cX9_step 11 = .ok (.getfield 202, 3) := by decide +kernel
theorem dX9_step_14 : decode cX9_step 14 = .ok (.bipush 32, 2) := by decide +kernel
theorem dX9_step_16 : decode cX9_step 16 = .ok (.if_icmp .ne 6, 3) := by decide +kernel
theorem dX9_step_19 : decode cX9_step 19 = .ok (.bipush (-4), 2) := by decide +kernel
theorem dX9_step_21 : decode cX9_step 21 = .ok (.ireturn, 1) := by decide +kernel
theorem dX9_step_22 : decode cX9_step 22 = .ok (.aload_n 0, 1) := by decide +kernel
theorem dX9_step_23 : decode cX9_step 23 = .ok (.getfield 50, 3) := by decide +kernel
theorem dX9_step_26 : decode cX9_step 26 = .ok (.aload_n 0, 1) := by decide +kernel
theorem dX9_step_27 : decode cX9_step 27 = .ok (.getfield 202, 3) := by decide +kernel
theorem dX9_step_30 : decode cX9_step 30 = .ok (.iload_n 1, 1) := by decide +kernel
theorem dX9_step_31 : decode cX9_step 31 = .ok (.iastore, 1) := by decide +kernel
theorem dX9_step_32 : decode cX9_step 32 = .ok (.aload_n 0, 1) := by decide +kernel
theorem dX9_step_33 : decode cX9_step 33 = .ok (.dup, 1) := by decide +kernel
theorem dX9_step_34 : decode cX9_step 34 = .ok (.getfield 202, 3) := by decide +kernel
theorem dX9_step_37 : decode cX9_step 37 = .ok (.iconst 1, 1) := by decide +kernel
theorem dX9_step_38 : decode cX9_step 38 = .ok (.iadd, 1) := by decide +kernel
theorem dX9_step_39 : decode cX9_step 39 = .ok (.putfield 202, 3) := by decide +kernel
theorem dX9_step_42 : decode cX9_step 42 = .ok (.aload_n 0, 1) := by decide +kernel
theorem dX9_step_43 : decode cX9_step 43 = .ok (.getfield 202, 3) := by decide +kernel
theorem dX9_step_46 : decode cX9_step 46 = .ok (.ireturn, 1) := by decide +kernel
theorem dX9_wipe_0 : decode cX9_wipe 0 = .ok (.aload_n 0, 1) := by decide +kernel
theorem dX9_wipe_1 : decode cX9_wipe 1 = .ok (.getfield 202, 3) := by decide +kernel
theorem dX9_wipe_4 : decode cX9_wipe 4 = .ok (.istore_n 1, 1) := by decide +kernel
theorem dX9_wipe_5 : decode cX9_wipe 5 = .ok (.aload_n 0, 1) := by decide +kernel
theorem dX9_wipe_6 : decode cX9_wipe 6 = .ok (.iconst 0, 1) := by decide +kernel
theorem dX9_wipe_7 : decode cX9_wipe 7 = .ok (.putfield 202, 3) := by decide +kernel
theorem dX9_wipe_10 : decode cX9_wipe 10 = .ok (.iload_n 1, 1) := by decide +kernel
theorem dX9_wipe_11 : decode cX9_wipe 11 = .ok (.ireturn, 1) := by decide +kernel
set_option maxRecDepth 20000 in
theorem ggX9_stepAt_X9_within : GoodIn wsX9_stepAt wsX9_within := goodIn_r _ [6] (by decide +kernel) (by decide +kernel)
set_option maxRecDepth 20000 in
theorem gX9_stepAt_X9_within : GoodIn wsX9_stepAt (va_wsS RX9 66 yX9_within wsX9_within) := goodIn_app (goodIn_of _ (by decide +kernel)) ggX9_stepAt_X9_within
theorem dX9_stepAt_0 : decode cX9_stepAt 0 = .ok (.iload_n 1, 1) := by decide +kernel
theorem dX9_stepAt_1 : decode cX9_stepAt 1 = .ok (.iconst 0, 1) := by decide +kernel
theorem dX9_stepAt_2 : decode cX9_stepAt 2 = .ok (.aload_n 0, 1) := by decide +kernel
theorem dX9_stepAt_3 : decode cX9_stepAt 3 = .ok (.getfield 202, 3) := by decide +kernel
theorem dX9_stepAt_6 : decode cX9_stepAt 6 = .ok (.iconst 1, 1) := by decide +kernel
theorem dX9_stepAt_7 : decode cX9_stepAt 7 = .ok (.isub, 1) := by decide +kernel
theorem dX9_stepAt_8 : decode cX9_stepAt 8 = .ok (.invokestatic 66, 3) := by decide +kernel
theorem dX9_stepAt_11 : decode cX9_stepAt 11 = .ok (.ifCond .eq 12, 3) := by decide +kernel
theorem dX9_stepAt_14 : decode cX9_stepAt 14 = .ok (.aload_n 0, 1) := by decide +kernel
theorem dX9_stepAt_15 : decode cX9_stepAt 15 = .ok (.getfield 50, 3) := by decide +kernel
theorem dX9_stepAt_18 : decode cX9_stepAt 18 = .ok (.iload_n 1, 1) := by decide +kernel
theorem dX9_stepAt_19 : decode cX9_stepAt 19 = .ok (.iaload, 1) := by decide +kernel
theorem dX9_stepAt_20 : decode cX9_stepAt 20 = .ok (.goto 4, 3) := by decide +kernel
theorem dX9_stepAt_23 : decode cX9_stepAt 23 = .ok (.iconst (-1), 1) := by decide +kernel
theorem dX9_stepAt_24 : decode cX9_stepAt 24 = .ok (.ireturn, 1) := by decide +kernel
theorem dX9_keeps_0 : decode cX9_keeps 0 = .ok (.iconst 0, 1) := by decide +kernel
theorem dX9_keeps_1 : decode cX9_keeps 1 = .ok (.istore_n 1, 1) := by decide +kernel
theorem dX9_keeps_2 : decode cX9_keeps 2 = .ok (.iload_n 1, 1) := by decide +kernel
theorem dX9_keeps_3 : decode cX9_keeps 3 = .ok (.bipush 9, 2) := by decide +kernel
theorem dX9_keeps_5 : decode cX9_keeps 5 = .ok (.if_icmp .ge 28, 3) := by decide +kernel
theorem dX9_keeps_8 : decode cX9_keeps 8 = .ok (.aload_n 0, 1) := by decide +kernel
theorem dX9_keeps_9 : decode cX9_keeps 9 = .ok (.getfield 56, 3) := by decide +kernel
theorem dX9_keeps_12 : decode cX9_keeps 12 = .ok (.iload_n 1, 1) := by decide +kernel
theorem dX9_keeps_13 : decode cX9_keeps 13 = .ok (.aload_n 0, 1) := by decide +kernel
theorem dX9_keeps_14 : decode cX9_keeps 14 = .ok (.getfield 25, 3) := by decide +kernel
theorem dX9_keeps_17 : decode cX9_keeps 17 = .ok (.iload_n 1, 1) := by decide +kernel
theorem dX9_keeps_18 : decode cX9_keeps 18 = .ok (.iaload, 1) := by decide +kernel
theorem dX9_keeps_19 : decode cX9_keeps 19 = .ok (.iastore, 1) := by decide +kernel
theorem dX9_keeps_20 : decode cX9_keeps 20 = .ok (.aload_n 0, 1) := by decide +kernel
theorem dX9_keeps_21 : decode cX9_keeps 21 = .ok (.getfield 25, 3) := by decide +kernel
theorem dX9_keeps_24 : decode cX9_keeps 24 = .ok (.iload_n 1, 1) := by decide +kernel
theorem dX9_keeps_25 : decode cX9_keeps 25 = .ok (.iconst 2, 1) := by decide +kernel
theorem dX9_keeps_26 : decode cX9_keeps 26 = .ok (.iastore, 1) := by decide +kernel
theorem dX9_keeps_27 : decode cX9_keeps 27 = .ok (.iinc 1 1, 3) := by decide +kernel
theorem dX9_keeps_30 : decode cX9_keeps 30 = .ok (.goto (-28), 3) := by decide +kernel
theorem dX9_keeps_33 : decode cX9_keeps 33 = .ok (.iconst 0, 1) := by decide +kernel
theorem dX9_keeps_34 : decode cX9_keeps 34 = .ok (.istore_n 1, 1) := by decide +kernel
theorem dX9_keeps_35 : decode cX9_keeps 35 = .ok (.iload_n 1, 1) := by decide +kernel
theorem dX9_keeps_36 : decode cX9_keeps 36 = .ok (.iconst 2, 1) := by decide +kernel
theorem dX9_keeps_37 : decode cX9_keeps 37 = .ok (.if_icmp .ge 31, 3) := by decide +kernel
theorem dX9_keeps_40 : decode cX9_keeps 40 = .ok (.aload_n 0, 1) := by decide +kernel
theorem dX9_keeps_41 : decode cX9_keeps 41 = .ok (.getfield 56, 3) := by decide +kernel
theorem dX9_keeps_44 : decode cX9_keeps 44 = .ok (.bipush 9, 2) := by decide +kernel
theorem dX9_keeps_46 : decode cX9_keeps 46 = .ok (.iload_n 1, 1) := by decide +kernel
theorem dX9_keeps_47 : decode cX9_keeps 47 = .ok (.iadd, 1) := by decide +kernel
theorem dX9_keeps_48 : decode cX9_keeps 48 = .ok (.aload_n 0, 1) := by decide +kernel
theorem dX9_keeps_49 : decode cX9_keeps 49 = .ok (.getfield 29, 3) := by decide +kernel
theorem dX9_keeps_52 : decode cX9_keeps 52 = .ok (.iload_n 1, 1) := by decide +kernel
theorem dX9_keeps_53 : decode cX9_keeps 53 = .ok (.iaload, 1) := by decide +kernel
theorem dX9_keeps_54 : decode cX9_keeps 54 = .ok (.iastore, 1) := by decide +kernel
theorem dX9_keeps_55 : decode cX9_keeps 55 = .ok (.aload_n 0, 1) := by decide +kernel
theorem dX9_keeps_56 : decode cX9_keeps 56 = .ok (.getfield 29, 3) := by decide +kernel
theorem dX9_keeps_59 : decode cX9_keeps 59 = .ok (.iload_n 1, 1) := by decide +kernel
theorem dX9_keeps_60 : decode cX9_keeps 60 = .ok (.iconst 2, 1) := by decide +kernel
theorem dX9_keeps_61 : decode cX9_keeps 61 = .ok (.iastore, 1) := by decide +kernel
theorem dX9_keeps_62 : decode cX9_keeps 62 = .ok (.iinc 1 1, 3) := by decide +kernel
theorem dX9_keeps_65 : decode cX9_keeps 65 = .ok (.goto (-30), 3) := by decide +kernel
theorem dX9_keeps_68 : decode cX9_keeps 68 = .ok (.return_, 1) := by decide +kernel
theorem dX9_restores_0 : decode cX9_restores 0 = .ok (.iconst 0, 1) := by decide +kernel
theorem dX9_restores_1 : decode cX9_restores 1 = .ok (.istore_n 1, 1) := by decide +kernel
theorem dX9_restores_2 : decode cX9_restores 2 = .ok (.iload_n 1, 1) := by decide +kernel
theorem dX9_restores_3 : decode cX9_restores 3 = .ok (.bipush 9, 2) := by decide +kernel
theorem dX9_restores_5 : decode cX9_restores 5 = .ok (.if_icmp .ge 21, 3) := by decide +kernel
theorem dX9_restores_8 : decode cX9_restores 8 = .ok (.aload_n 0, 1) := by decide +kernel
theorem dX9_restores_9 : decode cX9_restores 9 = .ok (.getfield 25, 3) := by decide +kernel
theorem dX9_restores_12 : decode cX9_restores 12 = .ok (.iload_n 1, 1) := by decide +kernel
theorem dX9_restores_13 : decode cX9_restores 13 = .ok (.aload_n 0, 1) := by decide +kernel
theorem dX9_restores_14 : decode cX9_restores 14 = .ok (.getfield 56, 3) := by decide +kernel
theorem dX9_restores_17 : decode cX9_restores 17 = .ok (.iload_n 1, 1) := by decide +kernel
theorem dX9_restores_18 : decode cX9_restores 18 = .ok (.iaload, 1) := by decide +kernel
theorem dX9_restores_19 : decode cX9_restores 19 = .ok (.iastore, 1) := by decide +kernel
theorem dX9_restores_20 : decode cX9_restores 20 = .ok (.iinc 1 1, 3) := by decide +kernel
theorem dX9_restores_23 : decode cX9_restores 23 = .ok (.goto (-21), 3) := by decide +kernel
theorem dX9_restores_26 : decode cX9_restores 26 = .ok (.iconst 0, 1) := by decide +kernel
theorem dX9_restores_27 : decode cX9_restores 27 = .ok (.istore_n 1, 1) := by decide +kernel
theorem dX9_restores_28 : decode cX9_restores 28 = .ok (.iload_n 1, 1) := by decide +kernel
theorem dX9_restores_29 : decode cX9_restores 29 = .ok (.iconst 2, 1) := by decide +kernel
theorem dX9_restores_30 : decode cX9_restores 30 = .ok (.if_icmp .ge 24, 3) := by decide +kernel
theorem dX9_restores_33 : decode cX9_restores 33 = .ok (.aload_n 0, 1) := by decide +kernel
theorem dX9_restores_34 : decode cX9_restores 34 = .ok (.getfield 29, 3) := by decide +kernel
theorem dX9_restores_37 : decode cX9_restores 37 = .ok (.iload_n 1, 1) := by decide +kernel
theorem dX9_restores_38 : decode cX9_restores 38 = .ok (.aload_n 0, 1) := by decide +kernel
theorem dX9_restores_39 : decode cX9_restores 39 = .ok (.getfield 56, 3) := by decide +kernel
theorem dX9_restores_42 : decode cX9_restores 42 = .ok (.bipush 9, 2) := by decide +kernel
theorem dX9_restores_44 : decode cX9_restores 44 = .ok (.iload_n 1, 1) := by decide +kernel
theorem dX9_restores_45 : decode cX9_restores 45 = .ok (.iadd, 1) := by decide +kernel
theorem dX9_restores_46 : decode cX9_restores 46 = .ok (.iaload, 1) := by decide +kernel
theorem dX9_restores_47 : decode cX9_restores 47 = .ok (.iastore, 1) := by decide +kernel
theorem dX9_restores_48 : decode cX9_restores 48 = .ok (.iinc 1 1, 3) := by decide +kernel
theorem dX9_restores_51 : decode cX9_restores 51 = .ok (.goto (-23), 3) := by decide +kernel
theorem dX9_restores_54 : decode cX9_restores 54 = .ok (.return_, 1) := by decide +kernel
set_option maxRecDepth 20000 in
theorem ggX9_tries_X9_stateOf : GoodIn wsX9_tries wsX9_stateOf := goodIn_r _ [14, 9, 15, 16, 17, 18, 19, 20, 21, 22, 23, 24, 25, 26, 27, 28, 29, 99, 100, 101, 102, 103, 104, 105, 106, 107, 108, 109, 110, 111, 112, 113, 114, 115, 116, 117, 118, 119, 120, 121, 122, 123, 124, 125, 126, 127, 128, 129, 130, 131, 132, 133, 134, 135, 136, 137, 138] (by decide +kernel) (by decide +kernel)
set_option maxRecDepth 20000 in
theorem gX9_tries_X9_stateOf : GoodIn wsX9_tries (wsV RX9 198 RX9 yX9_stateOf wsX9_stateOf) := goodIn_app (goodIn_of _ (by decide +kernel)) ggX9_tries_X9_stateOf
set_option maxRecDepth 20000 in
theorem ggX9_tries_X9_keeps : GoodIn wsX9_tries wsX9_keeps := goodIn_r _ [33, 34, 4, 35, 99, 100, 101, 102, 103, 104, 105, 106, 107, 108, 109, 110, 111, 112, 113, 114, 115, 116, 117, 118, 119, 120, 121, 122, 123, 124, 125, 126, 127, 128, 129, 130, 131, 132, 133, 134, 135, 136, 137, 138] (by decide +kernel) (by decide +kernel)
set_option maxRecDepth 20000 in
theorem gX9_tries_X9_keeps : GoodIn wsX9_tries (wsV RX9 205 RX9 yX9_keeps wsX9_keeps) := goodIn_app (goodIn_of _ (by decide +kernel)) ggX9_tries_X9_keeps
set_option maxRecDepth 20000 in
theorem ggX9_tries_X9_begins : GoodIn wsX9_tries wsX9_begins := goodIn_r _ [39, 9, 40, 41, 42, 13, 43, 44, 25, 29, 15, 28, 21, 27, 26, 17, 24, 23, 22, 19, 20, 18, 16, 1, 45, 46, 47, 48, 99, 100, 101, 102, 103, 104, 105, 106, 107, 108, 109, 110, 111, 112, 113, 114, 115, 116, 117, 118, 119, 120, 121, 122, 123, 124, 125, 126, 127, 128, 129, 130, 131, 132, 133, 134, 135, 136, 137, 138] (by decide +kernel) (by decide +kernel)
set_option maxRecDepth 20000 in
theorem gX9_tries_X9_begins : GoodIn wsX9_tries (wsV RX9 167 RX9 yX9_begins wsX9_begins) := goodIn_app (goodIn_of _ (by decide +kernel)) ggX9_tries_X9_begins
set_option maxRecDepth 20000 in
theorem ggX9_tries_X9_tickBy : GoodIn wsX9_tries wsX9_tickBy := goodIn_r _ [52, 23, 20, 22, 53, 16, 18, 26, 24, 29, 9, 54, 55, 56, 13, 57, 4, 58, 59, 60, 61, 62, 63, 64, 65, 66, 67, 68, 69, 70, 71, 72, 73, 74, 75, 76, 77, 78, 35, 79, 80, 81, 82, 8, 1, 27, 83, 84, 85, 86, 87, 88, 89, 90, 91, 92, 93, 6, 7, 94, 28, 99, 100, 101, 102, 103, 104, 105, 106, 107, 108, 109, 110, 111, 112, 113, 114, 115, 116, 117, 118, 119, 120, 121, 122, 123, 124, 125, 126, 127, 128, 129, 130, 131, 132, 133, 134, 135, 136, 137, 138] (by decide +kernel) (by decide +kernel)
set_option maxRecDepth 20000 in
theorem gX9_tries_X9_tickBy : GoodIn wsX9_tries (wsV RX9 191 RX9 yX9_tickBy wsX9_tickBy) := goodIn_app (goodIn_of _ (by decide +kernel)) ggX9_tries_X9_tickBy
set_option maxRecDepth 20000 in
theorem ggX9_tries_X9_restores : GoodIn wsX9_tries wsX9_restores := goodIn_r _ [98, 4, 34, 35, 99, 100, 101, 102, 103, 104, 105, 106, 107, 108, 109, 110, 111, 112, 113, 114, 115, 116, 117, 118, 119, 120, 121, 122, 123, 124, 125, 126, 127, 128, 129, 130, 131, 132, 133, 134, 135, 136, 137, 138] (by decide +kernel) (by decide +kernel)
set_option maxRecDepth 20000 in
theorem gX9_tries_X9_restores : GoodIn wsX9_tries (wsV RX9 208 RX9 yX9_restores wsX9_restores) := goodIn_app (goodIn_of _ (by decide +kernel)) ggX9_tries_X9_restores
set_option maxRecDepth 20000 in
theorem ggX9_tries_X9_becomes : GoodIn wsX9_tries wsX9_becomes := goodIn_r _ [43, 44, 25, 29, 15, 28, 21, 27, 26, 17, 24, 23, 22, 19, 20, 18, 16, 9, 1, 45, 46, 47, 13, 48, 99, 100, 101, 102, 103, 104, 105, 106, 107, 108, 109, 110, 111, 112, 113, 114, 115, 116, 117, 118, 119, 120, 121, 122, 123, 124, 125, 126, 127, 128, 129, 130, 131, 132, 133, 134, 135, 136, 137, 138] (by decide +kernel) (by decide +kernel)
set_option maxRecDepth 20000 in
theorem gX9_tries_X9_becomes : GoodIn wsX9_tries (wsV RX9 163 RX9 yX9_becomes wsX9_becomes) := goodIn_app (goodIn_of _ (by decide +kernel)) ggX9_tries_X9_becomes
theorem dX9_tries_0 : decode cX9_tries 0 = .ok (.aload_n 0, 1) := by decide +kernel
theorem dX9_tries_1 : decode cX9_tries 1 = .ok (.invokevirtual 198, 3) := by decide +kernel
theorem dX9_tries_4 : decode cX9_tries 4 = .ok (.lstore 4, 2) := by decide +kernel
theorem dX9_tries_6 : decode cX9_tries 6 = .ok (.aload_n 0, 1) := by decide +kernel
theorem dX9_tries_7 : decode cX9_tries 7 = .ok (.getfield 38, 3) := by decide +kernel
theorem dX9_tries_10 : decode cX9_tries 10 = .ok (.istore 6, 2) := by decide +kernel
theorem dX9_tries_12 : decode cX9_tries 12 = .ok (.aload_n 0, 1) := by decide +kernel
theorem dX9_tries_13 : decode cX9_tries 13 = .ok (.invokevirtual 205, 3) := by decide +kernel
theorem dX9_tries_16 : decode cX9_tries 16 = .ok (.aload_n 0, 1) := by decide +kernel
theorem dX9_tries_17 : decode cX9_tries 17 = .ok (.invokevirtual 167, 3) := by decide +kernel
theorem dX9_tries_20 : decode cX9_tries 20 = .ok (.aload_n 0, 1) := by decide +kernel
theorem dX9_tries_21 : decode cX9_tries 21 = .ok (.getfield 53, 3) := by decide +kernel
theorem dX9_tries_24 : decode cX9_tries 24 = .ok (.iconst 0, 1) := by decide +kernel
theorem dX9_tries_25 : decode cX9_tries 25 = .ok (.iconst 0, 1) := by decide +kernel
theorem dX9_tries_26 : decode cX9_tries 26 = .ok (.iastore, 1) := by decide +kernel
theorem dX9_tries_27 : decode cX9_tries 27 = .ok (.aload_n 0, 1) := by decide +kernel
theorem dX9_tries_28 : decode cX9_tries 28 = .ok (.getfield 53, 3) := by decide +kernel
theorem dX9_tries_31 : decode cX9_tries 31 = .ok (.iconst 1, 1) := by decide +kernel
theorem dX9_tries_32 : decode cX9_tries 32 = .ok (.bipush (-9), 2) := by decide +kernel
theorem dX9_tries_34 : decode cX9_tries 34 = .ok (.iastore, 1) := by decide +kernel
theorem dX9_tries_35 : decode cX9_tries 35 = .ok (.aload_n 0, 1) := by decide +kernel
theorem dX9_tries_36 : decode cX9_tries 36 = .ok (.getfield 53, 3) := by decide +kernel
theorem dX9_tries_39 : decode cX9_tries 39 = .ok (.iconst 2, 1) := by decide +kernel
theorem dX9_tries_40 : decode cX9_tries 40 = .ok (.bipush (-9), 2) := by decide +kernel
theorem dX9_tries_42 : decode cX9_tries 42 = .ok (.iastore, 1) := by decide +kernel
theorem dX9_tries_43 : decode cX9_tries 43 = .ok (.aload_n 0, 1) := by decide +kernel
theorem dX9_tries_44 : decode cX9_tries 44 = .ok (.getfield 53, 3) := by decide +kernel
theorem dX9_tries_47 : decode cX9_tries 47 = .ok (.iconst 4, 1) := by decide +kernel
theorem dX9_tries_48 : decode cX9_tries 48 = .ok (.iconst 0, 1) := by decide +kernel
theorem dX9_tries_49 : decode cX9_tries 49 = .ok (.iastore, 1) := by decide +kernel
theorem dX9_tries_50 : decode cX9_tries 50 = .ok (.iconst 0, 1) := by decide +kernel
theorem dX9_tries_51 : decode cX9_tries 51 = .ok (.istore 7, 2) := by decide +kernel
theorem dX9_tries_53 : decode cX9_tries 53 = .ok (.iload 7, 2) := by decide +kernel
theorem dX9_tries_55 : decode cX9_tries 55 = .ok (.aload_n 0, 1) := by decide +kernel
theorem dX9_tries_56 : decode cX9_tries 56 = .ok (.getfield 202, 3) := by decide +kernel
theorem dX9_tries_59 : decode cX9_tries 59 = .ok (.if_icmp .ge 103, 3) := by decide +kernel
theorem dX9_tries_62 : decode cX9_tries 62 = .ok (.aload_n 0, 1) := by decide +kernel
theorem dX9_tries_63 : decode cX9_tries 63 = .ok (.getfield 25, 3) := by decide +kernel
theorem dX9_tries_66 : decode cX9_tries 66 = .ok (.iload_n 1, 1) := by decide +kernel
theorem dX9_tries_67 : decode cX9_tries 67 = .ok (.iload 7, 2) := by decide +kernel
theorem dX9_tries_69 : decode cX9_tries 69 = .ok (.iload_n 3, 1) := by decide +kernel
theorem dX9_tries_70 : decode cX9_tries 70 = .ok (.if_icmp .lt 7, 3) := by decide +kernel
theorem dX9_tries_73 : decode cX9_tries 73 = .ok (.iload_n 2, 1) := by decide +kernel
theorem dX9_tries_74 : decode cX9_tries 74 = .ok (.goto 4, 3) := by decide +kernel
theorem dX9_tries_77 : decode cX9_tries 77 = .ok (.iconst 2, 1) := by decide +kernel
theorem dX9_tries_78 : decode cX9_tries 78 = .ok (.iastore, 1) := by decide +kernel
theorem dX9_tries_79 : decode cX9_tries 79 = .ok (.aload_n 0, 1) := by decide +kernel
theorem dX9_tries_80 : decode cX9_tries 80 = .ok (.aload_n 0, 1) := by decide +kernel
theorem dX9_tries_81 : decode cX9_tries 81 = .ok (.getfield 50, 3) := by decide +kernel
theorem dX9_tries_84 : decode cX9_tries 84 = .ok (.iload 7, 2) := by decide +kernel
theorem dX9_tries_86 : decode cX9_tries 86 = .ok (.iaload, 1) := by decide +kernel
theorem dX9_tries_87 : decode cX9_tries 87 = .ok (.invokevirtual 191, 3) := by decide +kernel
theorem dX9_tries_90 : decode cX9_tries 90 = .ok (.aload_n 0, 1) := by decide +kernel
theorem dX9_tries_91 : decode cX9_tries 91 = .ok (.getfield 53, 3) := by decide +kernel
theorem dX9_tries_94 : decode cX9_tries 94 = .ok (.iconst 0, 1) := by decide +kernel
theorem dX9_tries_95 : decode cX9_tries 95 = .ok (.dup2, 1) := by decide +kernel
theorem dX9_tries_96 : decode cX9_tries 96 = .ok (.iaload, 1) := by decide +kernel
theorem dX9_tries_97 : decode cX9_tries 97 = .ok (.aload_n 0, 1) := by decide +kernel
theorem dX9_tries_98 : decode cX9_tries 98 = .ok (.getfield 136, 3) := by decide +kernel
theorem dX9_tries_101 : decode cX9_tries 101 = .ok (.iadd, 1) := by decide +kernel
theorem dX9_tries_102 : decode cX9_tries 102 = .ok (.iastore, 1) := by decide +kernel
theorem dX9_tries_103 : decode cX9_tries 103 = .ok (.aload_n 0, 1) := by decide +kernel
theorem dX9_tries_104 : decode cX9_tries 104 = .ok (.getfield 53, 3) := by decide +kernel
theorem dX9_tries_107 : decode cX9_tries 107 = .ok (.iconst 4, 1) := by decide +kernel
theorem dX9_tries_108 : decode cX9_tries 108 = .ok (.dup2, 1) := by decide +kernel
theorem dX9_tries_109 : decode cX9_tries 109 = .ok (.iaload, 1) := by decide +kernel
theorem dX9_tries_110 : decode cX9_tries 110 = .ok (.aload_n 0, 1) := by decide +kernel
theorem dX9_tries_111 : decode cX9_tries 111 = .ok (.getfield 139, 3) := by decide +kernel
theorem dX9_tries_114 : decode cX9_tries 114 = .ok (.iadd, 1) := by decide +kernel
theorem dX9_tries_115 : decode cX9_tries 115 = .ok (.iastore, 1) := by decide +kernel
theorem dX9_tries_116 : decode cX9_tries 116 = .ok (.aload_n 0, 1) := by decide +kernel
theorem dX9_tries_117 : decode cX9_tries 117 = .ok (.getfield 127, 3) := by decide +kernel
theorem dX9_tries_120 : decode cX9_tries 120 = .ok (.bipush (-9), 2) := by decide +kernel
theorem dX9_tries_122 : decode cX9_tries 122 = .ok (.if_icmp .eq 34, 3) := by decide +kernel
theorem dX9_tries_125 : decode cX9_tries 125 = .ok (.aload_n 0, 1) := by decide +kernel
theorem dX9_tries_126 : decode cX9_tries 126 = .ok (.getfield 53, 3) := by decide +kernel
theorem dX9_tries_129 : decode cX9_tries 129 = .ok (.iconst 1, 1) := by decide +kernel
theorem dX9_tries_130 : decode cX9_tries 130 = .ok (.iaload, 1) := by decide +kernel
theorem dX9_tries_131 : decode cX9_tries 131 = .ok (.bipush (-9), 2) := by decide +kernel
theorem dX9_tries_133 : decode cX9_tries 133 = .ok (.if_icmp .ne 23, 3) := by decide +kernel
theorem dX9_tries_136 : decode cX9_tries 136 = .ok (.aload_n 0, 1) := by decide +kernel
theorem dX9_tries_137 : decode cX9_tries 137 = .ok (.getfield 53, 3) := by decide +kernel
theorem dX9_tries_140 : decode cX9_tries 140 = .ok (.iconst 1, 1) := by decide +kernel
theorem dX9_tries_141 : decode cX9_tries 141 = .ok (.iload 7, 2) := by decide +kernel
theorem dX9_tries_143 : decode cX9_tries 143 = .ok (.iconst 1, 1) := by decide +kernel
theorem dX9_tries_144 : decode cX9_tries 144 = .ok (.iadd, 1) := by decide +kernel
theorem dX9_tries_145 : decode cX9_tries 145 = .ok (.iastore, 1) := by decide +kernel
theorem dX9_tries_146 : decode cX9_tries 146 = .ok (.aload_n 0, 1) := by decide +kernel
theorem dX9_tries_147 : decode cX9_tries 147 = .ok (.getfield 53, 3) := by decide +kernel
theorem dX9_tries_150 : decode cX9_tries 150 = .ok (.iconst 2, 1) := by decide +kernel
theorem dX9_tries_151 : decode cX9_tries 151 = .ok (.aload_n 0, 1) := by decide +kernel
theorem dX9_tries_152 : decode cX9_tries 152 = .ok (.getfield 127, 3) := by decide +kernel
theorem dX9_tries_155 : decode cX9_tries 155 = .ok (.iastore, 1) := by decide +kernel
theorem dX9_tries_156 : decode cX9_tries 156 = .ok (.iinc 7 1, 3) := by decide +kernel
theorem dX9_tries_159 : decode cX9_tries 159 = .ok (.goto (-106), 3) := by decide +kernel
theorem dX9_tries_162 : decode cX9_tries 162 = .ok (.aload_n 0, 1) := by decide +kernel
theorem dX9_tries_163 : decode cX9_tries 163 = .ok (.getfield 53, 3) := by decide +kernel
theorem dX9_tries_166 : decode cX9_tries 166 = .ok (.iconst 3, 1) := by decide +kernel
theorem dX9_tries_167 : decode cX9_tries 167 = .ok (.aload_n 0, 1) := by decide +kernel
theorem dX9_tries_168 : decode cX9_tries 168 = .ok (.getfield 32, 3) := by decide +kernel
theorem dX9_tries_171 : decode cX9_tries 171 = .ok (.iastore, 1) := by decide +kernel
theorem dX9_tries_172 : decode cX9_tries 172 = .ok (.aload_n 0, 1) := by decide +kernel
theorem dX9_tries_173 : decode cX9_tries 173 = .ok (.invokevirtual 208, 3) := by decide +kernel
theorem dX9_tries_176 : decode cX9_tries 176 = .ok (.aload_n 0, 1) := by decide +kernel
theorem dX9_tries_177 : decode cX9_tries 177 = .ok (.lload 4, 2) := by decide +kernel
theorem dX9_tries_179 : decode cX9_tries 179 = .ok (.iload 6, 2) := by decide +kernel
theorem dX9_tries_181 : decode cX9_tries 181 = .ok (.invokevirtual 163, 3) := by decide +kernel
theorem dX9_tries_184 : decode cX9_tries 184 = .ok (.return_, 1) := by decide +kernel
set_option maxRecDepth 20000 in
theorem ggX9_trial_X9_within : GoodIn wsX9_trial wsX9_within := goodIn_r _ [6] (by decide +kernel) (by decide +kernel)
set_option maxRecDepth 20000 in
theorem gX9_trial_X9_within : GoodIn wsX9_trial (va_wsS RX9 66 yX9_within wsX9_within) := goodIn_app (goodIn_of _ (by decide +kernel)) ggX9_trial_X9_within
set_option maxRecDepth 20000 in
theorem ggX9_trial_X9_tries : GoodIn wsX9_trial wsX9_tries := goodIn_r _ [10, 11, 2, 1, 12, 13, 14, 15, 16, 17, 18, 19, 20, 5, 21, 22, 23, 24, 25, 26, 27, 28, 29, 30, 31, 32, 33, 34, 35, 36, 37, 38, 39, 40, 41, 42, 43, 44, 45, 46, 47, 48, 49, 50, 51, 52, 53, 54, 55, 56, 57, 58, 59, 60, 61, 62, 63, 64, 65, 66, 67, 68, 69, 70, 71, 72, 73, 74, 75, 76, 77, 78, 79, 80, 81, 82, 83, 84, 85, 86, 87, 88, 89, 90, 91, 92, 93, 94, 95, 96, 97, 98, 99, 100, 101, 102, 103, 104, 105, 106, 107, 108, 109, 110, 111, 112, 113, 114, 115, 116, 117, 118, 119, 120, 121, 122, 123, 124, 125, 126, 127, 128, 129, 130, 131, 132, 133, 134, 135, 136, 137, 138, 139, 140, 141, 142, 143, 144, 145] (by decide +kernel) (by decide +kernel)
set_option maxRecDepth 20000 in
theorem gX9_trial_X9_tries : GoodIn wsX9_trial (wsV RX9 211 RX9 yX9_tries wsX9_tries) := goodIn_app (goodIn_of _ (by decide +kernel)) ggX9_trial_X9_tries
theorem dX9_trial_0 : decode cX9_trial 0 = .ok (.iload_n 1, 1) := by decide +kernel
theorem dX9_trial_1 : decode cX9_trial 1 = .ok (.iconst 0, 1) := by decide +kernel
theorem dX9_trial_2 : decode cX9_trial 2 = .ok (.bipush 8, 2) := by decide +kernel
theorem dX9_trial_4 : decode cX9_trial 4 = .ok (.invokestatic 66, 3) := by decide +kernel
theorem dX9_trial_7 : decode cX9_trial 7 = .ok (.ifCond .ne 5, 3) := by decide +kernel
theorem dX9_trial_10 : decode cX9_trial 10 = .ok (.iconst (-1), 1) := by decide +kernel
theorem dX9_trial_11 : decode cX9_trial 11 = .ok (.ireturn, 1) := by decide +kernel
theorem dX9_trial_12 : decode cX9_trial 12 = .ok (.iload_n 2, 1) := by decide +kernel
theorem dX9_trial_13 : decode cX9_trial 13 = .ok (.iconst 0, 1) := by decide +kernel
theorem dX9_trial_14 : decode cX9_trial 14 = .ok (.iconst 1, 1) := by decide +kernel
theorem dX9_trial_15 : decode cX9_trial 15 = .ok (.invokestatic 66, 3) := by decide +kernel
theorem dX9_trial_18 : decode cX9_trial 18 = .ok (.ifCond .eq 25, 3) := by decide +kernel
theorem dX9_trial_21 : decode cX9_trial 21 = .ok (.iload_n 3, 1) := by decide +kernel
theorem dX9_trial_22 : decode cX9_trial 22 = .ok (.iconst 0, 1) := by decide +kernel
theorem dX9_trial_23 : decode cX9_trial 23 = .ok (.aload_n 0, 1) := by decide +kernel
theorem dX9_trial_24 : decode cX9_trial 24 = .ok (.getfield 202, 3) := by decide +kernel
theorem dX9_trial_27 : decode cX9_trial 27 = .ok (.invokestatic 66, 3) := by decide +kernel
theorem dX9_trial_30 : decode cX9_trial 30 = .ok (.ifCond .eq 13, 3) := by decide +kernel
theorem dX9_trial_33 : decode cX9_trial 33 = .ok (.iload 4, 2) := by decide +kernel
theorem dX9_trial_35 : decode cX9_trial 35 = .ok (.iconst 0, 1) := by decide +kernel
theorem dX9_trial_36 : decode cX9_trial 36 = .ok (.iconst 4, 1) := by decide +kernel
theorem dX9_trial_37 : decode cX9_trial 37 = .ok (.invokestatic 66, 3) := by decide +kernel
theorem dX9_trial_40 : decode cX9_trial 40 = .ok (.ifCond .ne 6, 3) := by decide +kernel
theorem dX9_trial_43 : decode cX9_trial 43 = .ok (.bipush (-2), 2) := by decide +kernel
theorem dX9_trial_45 : decode cX9_trial 45 = .ok (.ireturn, 1) := by decide +kernel
theorem dX9_trial_46 : decode cX9_trial 46 = .ok (.aload_n 0, 1) := by decide +kernel
theorem dX9_trial_47 : decode cX9_trial 47 = .ok (.iload_n 1, 1) := by decide +kernel
theorem dX9_trial_48 : decode cX9_trial 48 = .ok (.iload_n 2, 1) := by decide +kernel
theorem dX9_trial_49 : decode cX9_trial 49 = .ok (.iload_n 3, 1) := by decide +kernel
theorem dX9_trial_50 : decode cX9_trial 50 = .ok (.invokevirtual 211, 3) := by decide +kernel
theorem dX9_trial_53 : decode cX9_trial 53 = .ok (.aload_n 0, 1) := by decide +kernel
theorem dX9_trial_54 : decode cX9_trial 54 = .ok (.getfield 53, 3) := by decide +kernel
theorem dX9_trial_57 : decode cX9_trial 57 = .ok (.iload 4, 2) := by decide +kernel
theorem dX9_trial_59 : decode cX9_trial 59 = .ok (.iaload, 1) := by decide +kernel
theorem dX9_trial_60 : decode cX9_trial 60 = .ok (.ireturn, 1) := by decide +kernel
set_option maxRecDepth 20000 in
theorem ggX9_trials_X9_within : GoodIn wsX9_trials wsX9_within := goodIn_r _ [6] (by decide +kernel) (by decide +kernel)
set_option maxRecDepth 20000 in
theorem gX9_trials_X9_within : GoodIn wsX9_trials (va_wsS RX9 66 yX9_within wsX9_within) := goodIn_app (goodIn_of _ (by decide +kernel)) ggX9_trials_X9_within
set_option maxRecDepth 20000 in
theorem ggX9_trials_X9_tries : GoodIn wsX9_trials wsX9_tries := goodIn_r _ [10, 11, 2, 1, 12, 13, 14, 15, 16, 17, 18, 19, 20, 5, 21, 22, 23, 24, 25, 26, 27, 28, 29, 30, 31, 32, 33, 34, 35, 36, 37, 38, 39, 40, 41, 42, 43, 44, 45, 46, 47, 48, 49, 50, 51, 52, 53, 54, 55, 56, 57, 58, 59, 60, 61, 62, 63, 64, 65, 66, 67, 68, 69, 70, 71, 72, 73, 74, 75, 76, 77, 78, 79, 80, 81, 82, 83, 84, 85, 86, 87, 88, 89, 90, 91, 92, 93, 94, 95, 96, 97, 98, 99, 100, 101, 102, 103, 104, 105, 106, 107, 108, 109, 110, 111, 112, 113, 114, 115, 116, 117, 118, 119, 120, 121, 122, 123, 124, 125, 126, 127, 128, 129, 130, 131, 132, 133, 134, 135, 136, 137, 138, 139, 140, 141, 142, 143, 144, 145] (by decide +kernel) (by decide +kernel)
set_option maxRecDepth 20000 in
theorem gX9_trials_X9_tries : GoodIn wsX9_trials (wsV RX9 211 RX9 yX9_tries wsX9_tries) := goodIn_app (goodIn_of _ (by decide +kernel)) ggX9_trials_X9_tries
theorem dX9_trials_0 : decode cX9_trials 0 = .ok (.iload_n 1, 1) := by decide +kernel
theorem dX9_trials_1 : decode cX9_trials 1 = .ok (.iconst 0, 1) := by decide +kernel
theorem dX9_trials_2 : decode cX9_trials 2 = .ok (.iconst 5, 1) := by decide +kernel
theorem dX9_trials_3 : decode cX9_trials 3 = .ok (.invokestatic 66, 3) := by decide +kernel
theorem dX9_trials_6 : decode cX9_trials 6 = .ok (.ifCond .ne 6, 3) := by decide +kernel
theorem dX9_trials_9 : decode cX9_trials 9 = .ok (.bipush (-2), 2) := by decide +kernel
theorem dX9_trials_11 : decode cX9_trials 11 = .ok (.ireturn, 1) := by decide +kernel
theorem dX9_trials_12 : decode cX9_trials 12 = .ok (.aload_n 0, 1) := by decide +kernel
theorem dX9_trials_13 : decode cX9_trials 13 = .ok (.iconst 0, 1) := by decide +kernel
theorem dX9_trials_14 : decode cX9_trials 14 = .ok (.iconst 0, 1) := by decide +kernel
theorem dX9_trials_15 : decode cX9_trials 15 = .ok (.aload_n 0, 1) := by decide +kernel
theorem dX9_trials_16 : decode cX9_trials 16 = .ok (.getfield 202, 3) := by decide +kernel
theorem dX9_trials_19 : decode cX9_trials 19 = .ok (.invokevirtual 211, 3) := by decide +kernel
theorem dX9_trials_22 : decode cX9_trials 22 = .ok (.aload_n 0, 1) := by decide +kernel
theorem dX9_trials_23 : decode cX9_trials 23 = .ok (.getfield 53, 3) := by decide +kernel
theorem dX9_trials_26 : decode cX9_trials 26 = .ok (.iconst 4, 1) := by decide +kernel
theorem dX9_trials_27 : decode cX9_trials 27 = .ok (.iaload, 1) := by decide +kernel
theorem dX9_trials_28 : decode cX9_trials 28 = .ok (.istore_n 2, 1) := by decide +kernel
theorem dX9_trials_29 : decode cX9_trials 29 = .ok (.iconst 0, 1) := by decide +kernel
theorem dX9_trials_30 : decode cX9_trials 30 = .ok (.istore_n 3, 1) := by decide +kernel
theorem dX9_trials_31 : decode cX9_trials 31 = .ok (.iconst 0, 1) := by decide +kernel
theorem dX9_trials_32 : decode cX9_trials 32 = .ok (.istore 4, 2) := by decide +kernel
theorem dX9_trials_34 : decode cX9_trials 34 = .ok (.bipush (-9), 2) := by decide +kernel
theorem dX9_trials_36 : decode cX9_trials 36 = .ok (.istore 5, 2) := by decide +kernel
theorem dX9_trials_38 : decode cX9_trials 38 = .ok (.iconst 0, 1) := by decide +kernel
theorem dX9_trials_39 : decode cX9_trials 39 = .ok (.istore 6, 2) := by decide +kernel
theorem dX9_trials_41 : decode cX9_trials 41 = .ok (.iconst 0, 1) := by decide +kernel
theorem dX9_trials_42 : decode cX9_trials 42 = .ok (.istore 7, 2) := by decide +kernel
theorem dX9_trials_44 : decode cX9_trials 44 = .ok (.iconst 0, 1) := by decide +kernel
theorem dX9_trials_45 : decode cX9_trials 45 = .ok (.istore 8, 2) := by decide +kernel
theorem dX9_trials_47 : decode cX9_trials 47 = .ok (.iload 8, 2) := by decide +kernel
theorem dX9_trials_49 : decode cX9_trials 49 = .ok (.bipush 18, 2) := by decide +kernel
theorem dX9_trials_51 : decode cX9_trials 51 = .ok (.aload_n 0, 1) := by decide +kernel
theorem dX9_trials_52 : decode cX9_trials 52 = .ok (.getfield 202, 3) := by decide +kernel
theorem dX9_trials_55 : decode cX9_trials 55 = .ok (.imul, 1) := by decide +kernel
theorem dX9_trials_56 : decode cX9_trials 56 = .ok (.if_icmp .ge 156, 3) := by decide +kernel
theorem dX9_trials_59 : decode cX9_trials 59 = .ok (.iload 8, 2) := by decide +kernel
theorem dX9_trials_61 : decode cX9_trials 61 = .ok (.bipush 18, 2) := by decide +kernel
theorem dX9_trials_63 : decode cX9_trials 63 = .ok (.idiv, 1) := by decide +kernel
theorem dX9_trials_64 : decode cX9_trials 64 = .ok (.istore 9, 2) := by decide +kernel
theorem dX9_trials_66 : decode cX9_trials 66 = .ok (.aload_n 0, 1) := by decide +kernel
theorem dX9_trials_67 : decode cX9_trials 67 = .ok (.iload 8, 2) := by decide +kernel
theorem dX9_trials_69 : decode cX9_trials 69 = .ok (.iconst 2, 1) := by decide +kernel
theorem dX9_trials_70 : decode cX9_trials 70 = .ok (.idiv, 1) := by decide +kernel
theorem dX9_trials_71 : decode cX9_trials 71 = .ok (.bipush 9, 2) := by decide +kernel
theorem dX9_trials_73 : decode cX9_trials 73 = .ok (.irem, 1) := by decide +kernel
theorem dX9_trials_74 : decode cX9_trials 74 = .ok (.iload 8, 2) := by decide +kernel
theorem dX9_trials_76 : decode cX9_trials 76 = .ok (.iconst 2, 1) := by decide +kernel
theorem dX9_trials_77 : decode cX9_trials 77 = .ok (.irem, 1) := by decide +kernel
theorem dX9_trials_78 : decode cX9_trials 78 = .ok (.iload 9, 2) := by decide +kernel
theorem dX9_trials_80 : decode cX9_trials 80 = .ok (.invokevirtual 211, 3) := by decide +kernel
theorem dX9_trials_83 : decode cX9_trials 83 = .ok (.iload_n 3, 1) := by decide +kernel
theorem dX9_trials_84 : decode cX9_trials 84 = .ok (.aload_n 0, 1) := by decide +kernel
theorem dX9_trials_85 : decode cX9_trials 85 = .ok (.getfield 53, 3) := by decide +kernel
theorem dX9_trials_88 : decode cX9_trials 88 = .ok (.iconst 0, 1) := by decide +kernel
theorem dX9_trials_89 : decode cX9_trials 89 = .ok (.iaload, 1) := by decide +kernel
theorem dX9_trials_90 : decode cX9_trials 90 = .ok (.ifCond .le 7, 3) := by decide +kernel
theorem dX9_trials_93 : decode cX9_trials 93 = .ok (.iconst 1, 1) := by decide +kernel
theorem dX9_trials_94 : decode cX9_trials 94 = .ok (.goto 4, 3) := by decide +kernel
theorem dX9_trials_97 : decode cX9_trials 97 = .ok (.iconst 0, 1) := by decide +kernel
theorem dX9_trials_98 : decode cX9_trials 98 = .ok (.iadd, 1) := by decide +kernel
theorem dX9_trials_99 : decode cX9_trials 99 = .ok (.istore_n 3, 1) := by decide +kernel
theorem dX9_trials_100 : decode cX9_trials 100 = .ok (.iload 4, 2) := by decide +kernel
theorem dX9_trials_102 : decode cX9_trials 102 = .ok (.aload_n 0, 1) := by decide +kernel
theorem dX9_trials_103 : decode cX9_trials 103 = .ok (.getfield 53, 3) := by decide +kernel
theorem dX9_trials_106 : decode cX9_trials 106 = .ok (.iconst 1, 1) := by decide +kernel
theorem dX9_trials_107 : decode cX9_trials 107 = .ok (.iaload, 1) := by decide +kernel
theorem dX9_trials_108 : decode cX9_trials 108 = .ok (.bipush (-9), 2) := by decide +kernel
theorem dX9_trials_110 : decode cX9_trials 110 = .ok (.if_icmp .eq 7, 3) := by decide +kernel
theorem dX9_trials_113 : decode cX9_trials 113 = .ok (.iconst 1, 1) := by decide +kernel
theorem dX9_trials_114 : decode cX9_trials 114 = .ok (.goto 4, 3) := by decide +kernel
theorem dX9_trials_117 : decode cX9_trials 117 = .ok (.iconst 0, 1) := by decide +kernel
theorem dX9_trials_118 : decode cX9_trials 118 = .ok (.iadd, 1) := by decide +kernel
theorem dX9_trials_119 : decode cX9_trials 119 = .ok (.istore 4, 2) := by decide +kernel
theorem dX9_trials_121 : decode cX9_trials 121 = .ok (.aload_n 0, 1) := by decide +kernel
theorem dX9_trials_122 : decode cX9_trials 122 = .ok (.getfield 53, 3) := by decide +kernel
theorem dX9_trials_125 : decode cX9_trials 125 = .ok (.iconst 1, 1) := by decide +kernel
theorem dX9_trials_126 : decode cX9_trials 126 = .ok (.iaload, 1) := by decide +kernel
theorem dX9_trials_127 : decode cX9_trials 127 = .ok (.iload 9, 2) := by decide +kernel
theorem dX9_trials_129 : decode cX9_trials 129 = .ok (.if_icmp .le 29, 3) := by decide +kernel
theorem dX9_trials_132 : decode cX9_trials 132 = .ok (.aload_n 0, 1) := by decide +kernel
theorem dX9_trials_133 : decode cX9_trials 133 = .ok (.getfield 53, 3) := by decide +kernel
theorem dX9_trials_136 : decode cX9_trials 136 = .ok (.iconst 1, 1) := by decide +kernel
theorem dX9_trials_137 : decode cX9_trials 137 = .ok (.iaload, 1) := by decide +kernel
theorem dX9_trials_138 : decode cX9_trials 138 = .ok (.iload 9, 2) := by decide +kernel
theorem dX9_trials_140 : decode cX9_trials 140 = .ok (.isub, 1) := by decide +kernel
theorem dX9_trials_141 : decode cX9_trials 141 = .ok (.iload 5, 2) := by decide +kernel
theorem dX9_trials_143 : decode cX9_trials 143 = .ok (.if_icmp .le 15, 3) := by decide +kernel
theorem dX9_trials_146 : decode cX9_trials 146 = .ok (.aload_n 0, 1) := by decide +kernel
theorem dX9_trials_147 : decode cX9_trials 147 = .ok (.getfield 53, 3) := by decide +kernel
theorem dX9_trials_150 : decode cX9_trials 150 = .ok (.iconst 1, 1) := by decide +kernel
theorem dX9_trials_151 : decode cX9_trials 151 = .ok (.iaload, 1) := by decide +kernel
theorem dX9_trials_152 : decode cX9_trials 152 = .ok (.iload 9, 2) := by decide +kernel
theorem dX9_trials_154 : decode cX9_trials 154 = .ok (.isub, 1) := by decide +kernel
theorem dX9_trials_155 : decode cX9_trials 155 = .ok (.goto 5, 3) := by decide +kernel
theorem dX9_trials_158 : decode cX9_trials 158 = .ok (.iload 5, 2) := by decide +kernel
theorem dX9_trials_160 : decode cX9_trials 160 = .ok (.istore 5, 2) := by decide +kernel
theorem dX9_trials_162 : decode cX9_trials 162 = .ok (.aload_n 0, 1) := by decide +kernel
theorem dX9_trials_163 : decode cX9_trials 163 = .ok (.getfield 53, 3) := by decide +kernel
theorem dX9_trials_166 : decode cX9_trials 166 = .ok (.iconst 0, 1) := by decide +kernel
theorem dX9_trials_167 : decode cX9_trials 167 = .ok (.iaload, 1) := by decide +kernel
theorem dX9_trials_168 : decode cX9_trials 168 = .ok (.iload 6, 2) := by decide +kernel
theorem dX9_trials_170 : decode cX9_trials 170 = .ok (.if_icmp .le 12, 3) := by decide +kernel
theorem dX9_trials_173 : decode cX9_trials 173 = .ok (.aload_n 0, 1) := by decide +kernel
theorem dX9_trials_174 : decode cX9_trials 174 = .ok (.getfield 53, 3) := by decide +kernel
theorem dX9_trials_177 : decode cX9_trials 177 = .ok (.iconst 0, 1) := by decide +kernel
theorem dX9_trials_178 : decode cX9_trials 178 = .ok (.iaload, 1) := by decide +kernel
theorem dX9_trials_179 : decode cX9_trials 179 = .ok (.goto 5, 3) := by decide +kernel
theorem dX9_trials_182 : decode cX9_trials 182 = .ok (.iload 6, 2) := by decide +kernel
theorem dX9_trials_184 : decode cX9_trials 184 = .ok (.istore 6, 2) := by decide +kernel
theorem dX9_trials_186 : decode cX9_trials 186 = .ok (.iload 7, 2) := by decide +kernel
theorem dX9_trials_188 : decode cX9_trials 188 = .ok (.aload_n 0, 1) := by decide +kernel
theorem dX9_trials_189 : decode cX9_trials 189 = .ok (.getfield 53, 3) := by decide +kernel
theorem dX9_trials_192 : decode cX9_trials 192 = .ok (.iconst 4, 1) := by decide +kernel
theorem dX9_trials_193 : decode cX9_trials 193 = .ok (.iaload, 1) := by decide +kernel
theorem dX9_trials_194 : decode cX9_trials 194 = .ok (.iload_n 2, 1) := by decide +kernel
theorem dX9_trials_195 : decode cX9_trials 195 = .ok (.if_icmp .ge 7, 3) := by decide +kernel
theorem dX9_trials_198 : decode cX9_trials 198 = .ok (.iconst 1, 1) := by decide +kernel
theorem dX9_trials_199 : decode cX9_trials 199 = .ok (.goto 4, 3) := by decide +kernel
theorem dX9_trials_202 : decode cX9_trials 202 = .ok (.iconst 0, 1) := by decide +kernel
theorem dX9_trials_203 : decode cX9_trials 203 = .ok (.iadd, 1) := by decide +kernel
theorem dX9_trials_204 : decode cX9_trials 204 = .ok (.istore 7, 2) := by decide +kernel
theorem dX9_trials_206 : decode cX9_trials 206 = .ok (.iinc 8 1, 3) := by decide +kernel
theorem dX9_trials_209 : decode cX9_trials 209 = .ok (.goto (-162), 3) := by decide +kernel
theorem dX9_trials_212 : decode cX9_trials 212 = .ok (.iload_n 1, 1) := by decide +kernel
theorem dX9_trials_213 : decode cX9_trials 213 = .ok (.tableswitch 54 0 4 #[35, 43, 45, 48, 51], 35) := by decide +kernel
theorem dX9_trials_248 : decode cX9_trials 248 = .ok (.bipush 18, 2) := by decide +kernel
theorem dX9_trials_250 : decode cX9_trials 250 = .ok (.aload_n 0, 1) := by decide +kernel
theorem dX9_trials_251 : decode cX9_trials 251 = .ok (.getfield 202, 3) := by decide +kernel
theorem dX9_trials_254 : decode cX9_trials 254 = .ok (.imul, 1) := by decide +kernel
theorem dX9_trials_255 : decode cX9_trials 255 = .ok (.ireturn, 1) := by decide +kernel
theorem dX9_trials_256 : decode cX9_trials 256 = .ok (.iload_n 3, 1) := by decide +kernel
theorem dX9_trials_257 : decode cX9_trials 257 = .ok (.ireturn, 1) := by decide +kernel
theorem dX9_trials_258 : decode cX9_trials 258 = .ok (.iload 4, 2) := by decide +kernel
theorem dX9_trials_260 : decode cX9_trials 260 = .ok (.ireturn, 1) := by decide +kernel
theorem dX9_trials_261 : decode cX9_trials 261 = .ok (.iload 5, 2) := by decide +kernel
theorem dX9_trials_263 : decode cX9_trials 263 = .ok (.ireturn, 1) := by decide +kernel
theorem dX9_trials_264 : decode cX9_trials 264 = .ok (.iload 6, 2) := by decide +kernel
theorem dX9_trials_266 : decode cX9_trials 266 = .ok (.ireturn, 1) := by decide +kernel
theorem dX9_trials_267 : decode cX9_trials 267 = .ok (.iload 7, 2) := by decide +kernel
theorem dX9_trials_269 : decode cX9_trials 269 = .ok (.ireturn, 1) := by decide +kernel
set_option maxRecDepth 20000 in
theorem ggX9_isMay_X9_bit : GoodIn wsX9_isMay wsX9_bit := goodIn_r _ [4] (by decide +kernel) (by decide +kernel)
set_option maxRecDepth 20000 in
theorem gX9_isMay_X9_bit : GoodIn wsX9_isMay (va_wsS RX9 70 yX9_bit wsX9_bit) := goodIn_app (goodIn_of _ (by decide +kernel)) ggX9_isMay_X9_bit
set_option maxRecDepth 20000 in
theorem ggX9_isMay_X9_isSet : GoodIn wsX9_isMay wsX9_isSet := goodIn_r _ [7, 8, 9, 3, 10] (by decide +kernel) (by decide +kernel)
set_option maxRecDepth 20000 in
theorem gX9_isMay_X9_isSet : GoodIn wsX9_isMay (va_wsS RX9 187 yX9_isSet wsX9_isSet) := goodIn_app (goodIn_of _ (by decide +kernel)) ggX9_isMay_X9_isSet
theorem dX9_isMay_0 : decode cX9_isMay 0 = .ok (.iconst 0, 1) := by decide +kernel
theorem dX9_isMay_1 : decode cX9_isMay 1 = .ok (.istore_n 2, 1) := by decide +kernel
theorem dX9_isMay_2 : decode cX9_isMay 2 = .ok (.iconst 0, 1) := by decide +kernel
theorem dX9_isMay_3 : decode cX9_isMay 3 = .ok (.istore_n 3, 1) := by decide +kernel
theorem dX9_isMay_4 : decode cX9_isMay 4 = .ok (.iload_n 3, 1) := by decide +kernel
theorem dX9_isMay_5 : decode cX9_isMay 5 = .ok (.bipush 9, 2) := by decide +kernel
theorem dX9_isMay_7 : decode cX9_isMay 7 = .ok (.if_icmp .ge 17, 3) := by decide +kernel
theorem dX9_isMay_10 : decode cX9_isMay 10 = .ok (.iload_n 2, 1) := by decide +kernel
theorem dX9_isMay_11 : decode cX9_isMay 11 = .ok (.iload_n 1, 1) := by decide +kernel
theorem dX9_isMay_12 : decode cX9_isMay 12 = .ok (.iload_n 3, 1) := by decide +kernel
theorem dX9_isMay_13 : decode cX9_isMay 13 = .ok (.invokestatic 70, 3) := by decide +kernel
theorem dX9_isMay_16 : decode cX9_isMay 16 = .ok (.iadd, 1) := by decide +kernel
theorem dX9_isMay_17 : decode cX9_isMay 17 = .ok (.istore_n 2, 1) := by decide +kernel
theorem dX9_isMay_18 : decode cX9_isMay 18 = .ok (.iinc 3 1, 3) := by decide +kernel
theorem dX9_isMay_21 : decode cX9_isMay 21 = .ok (.goto (-17), 3) := by decide +kernel
theorem dX9_isMay_24 : decode cX9_isMay 24 = .ok (.iload_n 1, 1) := by decide +kernel
theorem dX9_isMay_25 : decode cX9_isMay 25 = .ok (.invokestatic 187, 3) := by decide +kernel
theorem dX9_isMay_28 : decode cX9_isMay 28 = .ok (.ifCond .eq 12, 3) := by decide +kernel
theorem dX9_isMay_31 : decode cX9_isMay 31 = .ok (.iload_n 2, 1) := by decide +kernel
theorem dX9_isMay_32 : decode cX9_isMay 32 = .ok (.iconst 2, 1) := by decide +kernel
theorem dX9_isMay_33 : decode cX9_isMay 33 = .ok (.if_icmp .gt 7, 3) := by decide +kernel
theorem dX9_isMay_36 : decode cX9_isMay 36 = .ok (.iconst 1, 1) := by decide +kernel
theorem dX9_isMay_37 : decode cX9_isMay 37 = .ok (.goto 4, 3) := by decide +kernel
theorem dX9_isMay_40 : decode cX9_isMay 40 = .ok (.iconst 0, 1) := by decide +kernel
theorem dX9_isMay_41 : decode cX9_isMay 41 = .ok (.ireturn, 1) := by decide +kernel
set_option maxRecDepth 20000 in
theorem ggX9_comes_X9_stateOf : GoodIn wsX9_comes wsX9_stateOf := goodIn_r _ [8, 9, 10, 11, 12, 13, 14, 15, 16, 17, 18, 19, 20, 21, 22, 23, 24, 25, 26, 27, 28, 29, 30, 31, 32, 33, 34, 35, 36, 37, 38, 39, 40, 41, 42, 43, 44, 45, 46, 47, 48, 49, 50, 51, 52, 53, 54, 55, 56, 57, 58, 59, 60, 61, 62, 63, 64] (by decide +kernel) (by decide +kernel)
set_option maxRecDepth 20000 in
theorem gX9_comes_X9_stateOf : GoodIn wsX9_comes (wsV RX9 198 RX9 yX9_stateOf wsX9_stateOf) := goodIn_app (goodIn_of _ (by decide +kernel)) ggX9_comes_X9_stateOf
theorem dX9_comes_0 : decode cX9_comes 0 = .ok (.aload_n 0, 1) := by decide +kernel
theorem dX9_comes_1 : decode cX9_comes 1 = .ok (.invokevirtual 198, 3) := by decide +kernel
theorem dX9_comes_4 : decode cX9_comes 4 = .ok (.lstore_n 2, 1) := by decide +kernel
theorem dX9_comes_5 : decode cX9_comes 5 = .ok (.iconst 0, 1) := by decide +kernel
theorem dX9_comes_6 : decode cX9_comes 6 = .ok (.istore 4, 2) := by decide +kernel
theorem dX9_comes_8 : decode cX9_comes 8 = .ok (.iload 4, 2) := by decide +kernel
theorem dX9_comes_10 : decode cX9_comes 10 = .ok (.aload_n 0, 1) := by decide +kernel
theorem dX9_comes_11 : decode cX9_comes 11 = .ok (.getfield 215, 3) := by decide +kernel
theorem dX9_comes_14 : decode cX9_comes 14 = .ok (.if_icmp .ge 51, 3) := by decide +kernel
theorem dX9_comes_17 : decode cX9_comes 17 = .ok (.aload_n 0, 1) := by decide +kernel
theorem dX9_comes_18 : decode cX9_comes 18 = .ok (.getfield 59, 3) := by decide +kernel
theorem dX9_comes_21 : decode cX9_comes 21 = .ok (.iload 4, 2) := by decide +kernel
theorem dX9_comes_23 : decode cX9_comes 23 = .ok (.laload, 1) := by decide +kernel
theorem dX9_comes_24 : decode cX9_comes 24 = .ok (.lload_n 2, 1) := by decide +kernel
theorem dX9_comes_25 : decode cX9_comes 25 = .ok (.lcmp, 1) := by decide +kernel
theorem dX9_comes_26 : decode cX9_comes 26 = .ok (.ifCond .ne 33, 3) := by decide +kernel
theorem dX9_comes_29 : decode cX9_comes 29 = .ok (.aload_n 0, 1) := by decide +kernel
theorem dX9_comes_30 : decode cX9_comes 30 = .ok (.getfield 63, 3) := by decide +kernel
theorem dX9_comes_33 : decode cX9_comes 33 = .ok (.iload 4, 2) := by decide +kernel
theorem dX9_comes_35 : decode cX9_comes 35 = .ok (.iload_n 1, 1) := by decide +kernel
theorem dX9_comes_36 : decode cX9_comes 36 = .ok (.aload_n 0, 1) := by decide +kernel
theorem dX9_comes_37 : decode cX9_comes 37 = .ok (.getfield 63, 3) := by decide +kernel
theorem dX9_comes_40 : decode cX9_comes 40 = .ok (.iload 4, 2) := by decide +kernel
theorem dX9_comes_42 : decode cX9_comes 42 = .ok (.iaload, 1) := by decide +kernel
theorem dX9_comes_43 : decode cX9_comes 43 = .ok (.if_icmp .ge 7, 3) := by decide +kernel
theorem dX9_comes_46 : decode cX9_comes 46 = .ok (.iload_n 1, 1) := by decide +kernel
theorem dX9_comes_47 : decode cX9_comes 47 = .ok (.goto 10, 3) := by decide +kernel
theorem dX9_comes_50 : decode cX9_comes 50 = .ok (.aload_n 0, 1) := by decide +kernel
theorem dX9_comes_51 : decode cX9_comes 51 = .ok (.getfield 63, 3) := by decide +kernel
theorem dX9_comes_54 : decode cX9_comes 54 = .ok (.iload 4, 2) := by decide +kernel
theorem dX9_comes_56 : decode cX9_comes 56 = .ok (.iaload, 1) := by decide +kernel
theorem dX9_comes_57 : decode cX9_comes 57 = .ok (.iastore, 1) := by decide +kernel
theorem dX9_comes_58 : decode cX9_comes 58 = .ok (.return_, 1) := by decide +kernel
theorem dX9_comes_59 : decode cX9_comes 59 = .ok (.iinc 4 1, 3) := by decide +kernel
theorem dX9_comes_62 : decode cX9_comes 62 = .ok (.goto (-54), 3) := by decide +kernel
theorem dX9_comes_65 : decode cX9_comes 65 = .ok (.aload_n 0, 1) := by decide +kernel
theorem dX9_comes_66 : decode cX9_comes 66 = .ok (.getfield 59, 3) := by decide +kernel
theorem dX9_comes_69 : decode cX9_comes 69 = .ok (.aload_n 0, 1) := by decide +kernel
theorem dX9_comes_70 : decode cX9_comes 70 = .ok (.getfield 215, 3) := by decide +kernel
theorem dX9_comes_73 : decode cX9_comes 73 = .ok (.lload_n 2, 1) := by decide +kernel
theorem dX9_comes_74 : decode cX9_comes 74 = .ok (.lastore, 1) := by decide +kernel
theorem dX9_comes_75 : decode cX9_comes 75 = .ok (.aload_n 0, 1) := by decide +kernel
theorem dX9_comes_76 : decode cX9_comes 76 = .ok (.getfield 63, 3) := by decide +kernel
theorem dX9_comes_79 : decode cX9_comes 79 = .ok (.aload_n 0, 1) := by decide +kernel
theorem dX9_comes_80 : decode cX9_comes 80 = .ok (.getfield 215, 3) := by decide +kernel
theorem dX9_comes_83 : decode cX9_comes 83 = .ok (.iload_n 1, 1) := by decide +kernel
theorem dX9_comes_84 : decode cX9_comes 84 = .ok (.iastore, 1) := by decide +kernel
theorem dX9_comes_85 : decode cX9_comes 85 = .ok (.aload_n 0, 1) := by decide +kernel
theorem dX9_comes_86 : decode cX9_comes 86 = .ok (.dup, 1) := by decide +kernel
theorem dX9_comes_87 : decode cX9_comes 87 = .ok (.getfield 215, 3) := by decide +kernel
theorem dX9_comes_90 : decode cX9_comes 90 = .ok (.iconst 1, 1) := by decide +kernel
theorem dX9_comes_91 : decode cX9_comes 91 = .ok (.iadd, 1) := by decide +kernel
theorem dX9_comes_92 : decode cX9_comes 92 = .ok (.putfield 215, 3) := by decide +kernel
theorem dX9_comes_95 : decode cX9_comes 95 = .ok (.return_, 1) := by decide +kernel
set_option maxRecDepth 20000 in
theorem ggX9_chosen_X9_bit : GoodIn wsX9_chosen wsX9_bit := goodIn_r _ [4] (by decide +kernel) (by decide +kernel)
set_option maxRecDepth 20000 in
theorem gX9_chosen_X9_bit : GoodIn wsX9_chosen (va_wsS RX9 70 yX9_bit wsX9_bit) := goodIn_app (goodIn_of _ (by decide +kernel)) ggX9_chosen_X9_bit
theorem dX9_chosen_0 : decode cX9_chosen 0 = .ok (.iload_n 0, 1) := by decide +kernel
theorem dX9_chosen_1 : decode cX9_chosen 1 = .ok (.iload_n 1, 1) := by decide +kernel
theorem dX9_chosen_2 : decode cX9_chosen 2 = .ok (.iconst (-1), 1) := by decide +kernel
theorem dX9_chosen_3 : decode cX9_chosen 3 = .ok (.ixor, 1) := by decide +kernel
theorem dX9_chosen_4 : decode cX9_chosen 4 = .ok (.iand, 1) := by decide +kernel
theorem dX9_chosen_5 : decode cX9_chosen 5 = .ok (.istore_n 3, 1) := by decide +kernel
theorem dX9_chosen_6 : decode cX9_chosen 6 = .ok (.iconst 0, 1) := by decide +kernel
theorem dX9_chosen_7 : decode cX9_chosen 7 = .ok (.istore 4, 2) := by decide +kernel
theorem dX9_chosen_9 : decode cX9_chosen 9 = .ok (.iconst 0, 1) := by decide +kernel
theorem dX9_chosen_10 : decode cX9_chosen 10 = .ok (.istore 5, 2) := by decide +kernel
theorem dX9_chosen_12 : decode cX9_chosen 12 = .ok (.iload 5, 2) := by decide +kernel
theorem dX9_chosen_14 : decode cX9_chosen 14 = .ok (.bipush 9, 2) := by decide +kernel
theorem dX9_chosen_16 : decode cX9_chosen 16 = .ok (.if_icmp .ge 34, 3) := by decide +kernel
theorem dX9_chosen_19 : decode cX9_chosen 19 = .ok (.iload_n 1, 1) := by decide +kernel
theorem dX9_chosen_20 : decode cX9_chosen 20 = .ok (.iload 5, 2) := by decide +kernel
theorem dX9_chosen_22 : decode cX9_chosen 22 = .ok (.invokestatic 70, 3) := by decide +kernel
theorem dX9_chosen_25 : decode cX9_chosen 25 = .ok (.iconst 1, 1) := by decide +kernel
theorem dX9_chosen_26 : decode cX9_chosen 26 = .ok (.if_icmp .ne 18, 3) := by decide +kernel
theorem dX9_chosen_29 : decode cX9_chosen 29 = .ok (.iload_n 3, 1) := by decide +kernel
theorem dX9_chosen_30 : decode cX9_chosen 30 = .ok (.iload_n 2, 1) := by decide +kernel
theorem dX9_chosen_31 : decode cX9_chosen 31 = .ok (.iload 4, 2) := by decide +kernel
theorem dX9_chosen_33 : decode cX9_chosen 33 = .ok (.invokestatic 70, 3) := by decide +kernel
theorem dX9_chosen_36 : decode cX9_chosen 36 = .ok (.iload 5, 2) := by decide +kernel
theorem dX9_chosen_38 : decode cX9_chosen 38 = .ok (.ishl, 1) := by decide +kernel
theorem dX9_chosen_39 : decode cX9_chosen 39 = .ok (.ior, 1) := by decide +kernel
theorem dX9_chosen_40 : decode cX9_chosen 40 = .ok (.istore_n 3, 1) := by decide +kernel
theorem dX9_chosen_41 : decode cX9_chosen 41 = .ok (.iinc 4 1, 3) := by decide +kernel
theorem dX9_chosen_44 : decode cX9_chosen 44 = .ok (.iinc 5 1, 3) := by decide +kernel
theorem dX9_chosen_47 : decode cX9_chosen 47 = .ok (.goto (-35), 3) := by decide +kernel
theorem dX9_chosen_50 : decode cX9_chosen 50 = .ok (.iload_n 3, 1) := by decide +kernel
theorem dX9_chosen_51 : decode cX9_chosen 51 = .ok (.ireturn, 1) := by decide +kernel
set_option maxRecDepth 20000 in
theorem ggX9_goesAll_X9_stateOf : GoodIn wsX9_goesAll wsX9_stateOf := goodIn_r _ [9, 10, 11, 12, 13, 14, 15, 16, 17, 18, 19, 20, 21, 22, 23, 24, 25, 94, 95, 96, 97, 98, 99, 100, 101, 102, 103, 104, 105, 106, 107, 108, 109, 110, 111, 112, 113, 114, 115, 116, 117, 118, 119, 120, 121, 122, 123, 124, 125, 126, 127, 128, 129, 130, 131, 132, 133] (by decide +kernel) (by decide +kernel)
set_option maxRecDepth 20000 in
theorem gX9_goesAll_X9_stateOf : GoodIn wsX9_goesAll (wsV RX9 198 RX9 yX9_stateOf wsX9_stateOf) := goodIn_app (goodIn_of _ (by decide +kernel)) ggX9_goesAll_X9_stateOf
set_option maxRecDepth 20000 in
theorem ggX9_goesAll_X9_comes : GoodIn wsX9_goesAll wsX9_comes := goodIn_r _ [29, 2, 30, 31, 5, 6, 7, 8, 9, 10, 11, 12, 13, 14, 15, 16, 17, 18, 19, 20, 21, 22, 23, 24, 25, 94, 95, 96, 97, 98, 99, 100, 101, 102, 103, 104, 105, 106, 107, 108, 109, 110, 111, 112, 113, 114, 115, 116, 117, 118, 119, 120, 121, 122, 123, 124, 125, 126, 127, 128, 129, 130, 131, 132, 133] (by decide +kernel) (by decide +kernel)
set_option maxRecDepth 20000 in
theorem gX9_goesAll_X9_comes : GoodIn wsX9_goesAll (wsV RX9 221 RX9 yX9_comes wsX9_comes) := goodIn_app (goodIn_of _ (by decide +kernel)) ggX9_goesAll_X9_comes
set_option maxRecDepth 20000 in
theorem ggX9_goesAll_X9_chosen : GoodIn wsX9_goesAll wsX9_chosen := goodIn_r _ [34, 35, 36, 8, 37] (by decide +kernel) (by decide +kernel)
set_option maxRecDepth 20000 in
theorem gX9_goesAll_X9_chosen : GoodIn wsX9_goesAll (va_wsS RX9 224 yX9_chosen wsX9_chosen) := goodIn_app (goodIn_of _ (by decide +kernel)) ggX9_goesAll_X9_chosen
set_option maxRecDepth 20000 in
theorem ggX9_goesAll_X9_tickBy : GoodIn wsX9_goesAll wsX9_tickBy := goodIn_r _ [41, 19, 16, 18, 42, 12, 14, 22, 20, 25, 10, 43, 44, 45, 8, 46, 47, 35, 36, 37, 48, 49, 50, 51, 52, 53, 54, 55, 56, 57, 58, 59, 60, 61, 62, 63, 64, 65, 66, 67, 68, 69, 70, 71, 1, 23, 72, 73, 74, 75, 76, 77, 78, 79, 80, 81, 82, 4, 83, 84, 24, 94, 95, 96, 97, 98, 99, 100, 101, 102, 103, 104, 105, 106, 107, 108, 109, 110, 111, 112, 113, 114, 115, 116, 117, 118, 119, 120, 121, 122, 123, 124, 125, 126, 127, 128, 129, 130, 131, 132, 133] (by decide +kernel) (by decide +kernel)
set_option maxRecDepth 20000 in
theorem gX9_goesAll_X9_tickBy : GoodIn wsX9_goesAll (wsV RX9 191 RX9 yX9_tickBy wsX9_tickBy) := goodIn_app (goodIn_of _ (by decide +kernel)) ggX9_goesAll_X9_tickBy
set_option maxRecDepth 20000 in
theorem ggX9_goesAll_X9_becomes : GoodIn wsX9_goesAll wsX9_becomes := goodIn_r _ [88, 89, 21, 25, 11, 24, 17, 23, 22, 13, 20, 19, 18, 15, 16, 14, 12, 10, 1, 90, 91, 92, 8, 93, 94, 95, 96, 97, 98, 99, 100, 101, 102, 103, 104, 105, 106, 107, 108, 109, 110, 111, 112, 113, 114, 115, 116, 117, 118, 119, 120, 121, 122, 123, 124, 125, 126, 127, 128, 129, 130, 131, 132, 133] (by decide +kernel) (by decide +kernel)
set_option maxRecDepth 20000 in
theorem gX9_goesAll_X9_becomes : GoodIn wsX9_goesAll (wsV RX9 163 RX9 yX9_becomes wsX9_becomes) := goodIn_app (goodIn_of _ (by decide +kernel)) ggX9_goesAll_X9_becomes
theorem dX9_goesAll_0 : decode cX9_goesAll 0 = .ok (.aload_n 0, 1) := by decide +kernel
theorem dX9_goesAll_1 : decode cX9_goesAll 1 = .ok (.invokevirtual 198, 3) := by decide +kernel
theorem dX9_goesAll_4 : decode cX9_goesAll 4 = .ok (.lstore 4, 2) := by decide +kernel
theorem dX9_goesAll_6 : decode cX9_goesAll 6 = .ok (.aload_n 0, 1) := by decide +kernel
theorem dX9_goesAll_7 : decode cX9_goesAll 7 = .ok (.getfield 38, 3) := by decide +kernel
theorem dX9_goesAll_10 : decode cX9_goesAll 10 = .ok (.istore 6, 2) := by decide +kernel
theorem dX9_goesAll_12 : decode cX9_goesAll 12 = .ok (.aload_n 0, 1) := by decide +kernel
theorem dX9_goesAll_13 : decode cX9_goesAll 13 = .ok (.iconst 0, 1) := by decide +kernel
theorem dX9_goesAll_14 : decode cX9_goesAll 14 = .ok (.putfield 215, 3) := by decide +kernel
theorem dX9_goesAll_17 : decode cX9_goesAll 17 = .ok (.aload_n 0, 1) := by decide +kernel
theorem dX9_goesAll_18 : decode cX9_goesAll 18 = .ok (.iconst 0, 1) := by decide +kernel
theorem dX9_goesAll_19 : decode cX9_goesAll 19 = .ok (.putfield 218, 3) := by decide +kernel
theorem dX9_goesAll_22 : decode cX9_goesAll 22 = .ok (.iconst 0, 1) := by decide +kernel
theorem dX9_goesAll_23 : decode cX9_goesAll 23 = .ok (.istore 7, 2) := by decide +kernel
theorem dX9_goesAll_25 : decode cX9_goesAll 25 = .ok (.iload 7, 2) := by decide +kernel
theorem dX9_goesAll_27 : decode cX9_goesAll 27 = .ok (.iconst 1, 1) := by decide +kernel
theorem dX9_goesAll_28 : decode cX9_goesAll 28 = .ok (.iconst 2, 1) := by decide +kernel
theorem dX9_goesAll_29 : decode cX9_goesAll 29 = .ok (.iload_n 3, 1) := by decide +kernel
theorem dX9_goesAll_30 : decode cX9_goesAll 30 = .ok (.imul, 1) := by decide +kernel
theorem dX9_goesAll_31 : decode cX9_goesAll 31 = .ok (.ishl, 1) := by decide +kernel
theorem dX9_goesAll_32 : decode cX9_goesAll 32 = .ok (.if_icmp .ge 97, 3) := by decide +kernel
theorem dX9_goesAll_35 : decode cX9_goesAll 35 = .ok (.iconst 0, 1) := by decide +kernel
theorem dX9_goesAll_36 : decode cX9_goesAll 36 = .ok (.istore 8, 2) := by decide +kernel
theorem dX9_goesAll_38 : decode cX9_goesAll 38 = .ok (.aload_n 0, 1) := by decide +kernel
theorem dX9_goesAll_39 : decode cX9_goesAll 39 = .ok (.iconst 0, 1) := by decide +kernel
theorem dX9_goesAll_40 : decode cX9_goesAll 40 = .ok (.invokevirtual 221, 3) := by decide +kernel
theorem dX9_goesAll_43 : decode cX9_goesAll 43 = .ok (.iconst 0, 1) := by decide +kernel
theorem dX9_goesAll_44 : decode cX9_goesAll 44 = .ok (.istore 9, 2) := by decide +kernel
theorem dX9_goesAll_46 : decode cX9_goesAll 46 = .ok (.iload 9, 2) := by decide +kernel
theorem dX9_goesAll_48 : decode cX9_goesAll 48 = .ok (.iload_n 3, 1) := by decide +kernel
theorem dX9_goesAll_49 : decode cX9_goesAll 49 = .ok (.if_icmp .ge 44, 3) := by decide +kernel
theorem dX9_goesAll_52 : decode cX9_goesAll 52 = .ok (.aload_n 0, 1) := by decide +kernel
theorem dX9_goesAll_53 : decode cX9_goesAll 53 = .ok (.iload_n 1, 1) := by decide +kernel
theorem dX9_goesAll_54 : decode cX9_goesAll 54 = .ok (.iload_n 2, 1) := by decide +kernel
theorem dX9_goesAll_55 : decode cX9_goesAll 55 = .ok (.iload 7, 2) := by decide +kernel
theorem dX9_goesAll_57 : decode cX9_goesAll 57 = .ok (.iconst 2, 1) := by decide +kernel
theorem dX9_goesAll_58 : decode cX9_goesAll 58 = .ok (.iload 9, 2) := by decide +kernel
theorem dX9_goesAll_60 : decode cX9_goesAll 60 = .ok (.imul, 1) := by decide +kernel
theorem dX9_goesAll_61 : decode cX9_goesAll 61 = .ok (.ishr, 1) := by decide +kernel
theorem dX9_goesAll_62 : decode cX9_goesAll 62 = .ok (.iconst 3, 1) := by decide +kernel
theorem dX9_goesAll_63 : decode cX9_goesAll 63 = .ok (.iand, 1) := by decide +kernel
theorem dX9_goesAll_64 : decode cX9_goesAll 64 = .ok (.invokestatic 224, 3) := by decide +kernel
theorem dX9_goesAll_67 : decode cX9_goesAll 67 = .ok (.invokevirtual 191, 3) := by decide +kernel
theorem dX9_goesAll_70 : decode cX9_goesAll 70 = .ok (.iload 8, 2) := by decide +kernel
theorem dX9_goesAll_72 : decode cX9_goesAll 72 = .ok (.aload_n 0, 1) := by decide +kernel
theorem dX9_goesAll_73 : decode cX9_goesAll 73 = .ok (.getfield 136, 3) := by decide +kernel
theorem dX9_goesAll_76 : decode cX9_goesAll 76 = .ok (.iadd, 1) := by decide +kernel
theorem dX9_goesAll_77 : decode cX9_goesAll 77 = .ok (.istore 8, 2) := by decide +kernel
theorem dX9_goesAll_79 : decode cX9_goesAll 79 = .ok (.aload_n 0, 1) := by decide +kernel
theorem dX9_goesAll_80 : decode cX9_goesAll 80 = .ok (.iload 9, 2) := by decide +kernel
theorem dX9_goesAll_82 : decode cX9_goesAll 82 = .ok (.iconst 1, 1) := by decide +kernel
theorem dX9_goesAll_83 : decode cX9_goesAll 83 = .ok (.iadd, 1) := by decide +kernel
theorem dX9_goesAll_84 : decode cX9_goesAll 84 = .ok (.invokevirtual 221, 3) := by decide +kernel
theorem dX9_goesAll_87 : decode cX9_goesAll 87 = .ok (.iinc 9 1, 3) := by decide +kernel
theorem dX9_goesAll_90 : decode cX9_goesAll 90 = .ok (.goto (-44), 3) := by decide +kernel
theorem dX9_goesAll_93 : decode cX9_goesAll 93 = .ok (.aload_n 0, 1) := by decide +kernel
theorem dX9_goesAll_94 : decode cX9_goesAll 94 = .ok (.iload 8, 2) := by decide +kernel
theorem dX9_goesAll_96 : decode cX9_goesAll 96 = .ok (.aload_n 0, 1) := by decide +kernel
theorem dX9_goesAll_97 : decode cX9_goesAll 97 = .ok (.getfield 218, 3) := by decide +kernel
theorem dX9_goesAll_100 : decode cX9_goesAll 100 = .ok (.if_icmp .le 8, 3) := by decide +kernel
theorem dX9_goesAll_103 : decode cX9_goesAll 103 = .ok (.iload 8, 2) := by decide +kernel
theorem dX9_goesAll_105 : decode cX9_goesAll 105 = .ok (.goto 7, 3) := by decide +kernel
theorem dX9_goesAll_108 : decode cX9_goesAll 108 = .ok (.aload_n 0, 1) := by decide +kernel
theorem dX9_goesAll_109 : decode cX9_goesAll 109 = .ok (.getfield 218, 3) := by decide +kernel
theorem dX9_goesAll_112 : decode cX9_goesAll 112 = .ok (.putfield 218, 3) := by decide +kernel
theorem dX9_goesAll_115 : decode cX9_goesAll 115 = .ok (.aload_n 0, 1) := by decide +kernel
theorem dX9_goesAll_116 : decode cX9_goesAll 116 = .ok (.lload 4, 2) := by decide +kernel
theorem dX9_goesAll_118 : decode cX9_goesAll 118 = .ok (.iload 6, 2) := by decide +kernel
theorem dX9_goesAll_120 : decode cX9_goesAll 120 = .ok (.invokevirtual 163, 3) := by decide +kernel
theorem dX9_goesAll_123 : decode cX9_goesAll 123 = .ok (.iinc 7 1, 3) := by decide +kernel
theorem dX9_goesAll_126 : decode cX9_goesAll 126 = .ok (.goto (-101), 3) := by decide +kernel
theorem dX9_goesAll_129 : decode cX9_goesAll 129 = .ok (.return_, 1) := by decide +kernel
theorem dX9_modeOf_0 : decode cX9_modeOf 0 = .ok (.lload_n 1, 1) := by decide +kernel
theorem dX9_modeOf_1 : decode cX9_modeOf 1 = .ok (.bipush 39, 2) := by decide +kernel
theorem dX9_modeOf_3 : decode cX9_modeOf 3 = .ok (.lshr, 1) := by decide +kernel
theorem dX9_modeOf_4 : decode cX9_modeOf 4 = .ok (.l2i, 1) := by decide +kernel
theorem dX9_modeOf_5 : decode cX9_modeOf 5 = .ok (.ireturn, 1) := by decide +kernel
set_option maxRecDepth 20000 in
theorem ggX9_reach_X9_isSet : GoodIn wsX9_reach wsX9_isSet := goodIn_r _ [8, 9, 10, 7, 11] (by decide +kernel) (by decide +kernel)
set_option maxRecDepth 20000 in
theorem gX9_reach_X9_isSet : GoodIn wsX9_reach (va_wsS RX9 187 yX9_isSet wsX9_isSet) := goodIn_app (goodIn_of _ (by decide +kernel)) ggX9_reach_X9_isSet
set_option maxRecDepth 20000 in
theorem ggX9_reach_X9_isMay : GoodIn wsX9_reach wsX9_isMay := goodIn_r _ [15, 16, 17, 7, 18, 5, 6, 8, 9, 10, 11] (by decide +kernel) (by decide +kernel)
set_option maxRecDepth 20000 in
theorem gX9_reach_X9_isMay : GoodIn wsX9_reach (wsV RX9 227 RX9 yX9_isMay wsX9_isMay) := goodIn_app (goodIn_of _ (by decide +kernel)) ggX9_reach_X9_isMay
set_option maxRecDepth 20000 in
theorem ggX9_reach_X9_within : GoodIn wsX9_reach wsX9_within := goodIn_r _ [11] (by decide +kernel) (by decide +kernel)
set_option maxRecDepth 20000 in
theorem gX9_reach_X9_within : GoodIn wsX9_reach (va_wsS RX9 66 yX9_within wsX9_within) := goodIn_app (goodIn_of _ (by decide +kernel)) ggX9_reach_X9_within
set_option maxRecDepth 20000 in
theorem ggX9_reach_X9_goesAll : GoodIn wsX9_reach wsX9_goesAll := goodIn_r _ [22, 23, 1, 2, 24, 25, 26, 27, 7, 28, 29, 30, 31, 32, 33, 34, 35, 36, 37, 38, 39, 40, 41, 42, 43, 44, 45, 46, 47, 48, 3, 4, 49, 50, 51, 16, 17, 18, 52, 53, 54, 55, 56, 57, 58, 59, 60, 61, 62, 63, 64, 65, 66, 67, 68, 69, 70, 71, 72, 73, 74, 75, 76, 77, 78, 79, 80, 81, 82, 83, 84, 85, 86, 87, 88, 89, 90, 91, 92, 93, 94, 95, 96, 97, 98, 99, 100, 101, 102, 103, 104, 105, 106, 107, 112, 113, 114, 115, 116, 117, 118, 119, 120, 121, 122, 123, 124, 125, 126, 127, 128, 129, 130, 131, 132, 133, 134, 135, 136, 137, 138, 139, 140, 141, 142, 143, 144, 145, 146, 147, 148, 149, 150, 151] (by decide +kernel) (by decide +kernel)
set_option maxRecDepth 20000 in
theorem gX9_reach_X9_goesAll : GoodIn wsX9_reach (wsV RX9 230 RX9 yX9_goesAll wsX9_goesAll) := goodIn_app (goodIn_of _ (by decide +kernel)) ggX9_reach_X9_goesAll
set_option maxRecDepth 20000 in
theorem ggX9_reach_X9_modeOf : GoodIn wsX9_reach wsX9_modeOf := goodIn_r _ [111] (by decide +kernel) (by decide +kernel)
set_option maxRecDepth 20000 in
theorem gX9_reach_X9_modeOf : GoodIn wsX9_reach (wsV RX9 233 RX9 yX9_modeOf wsX9_modeOf) := goodIn_app (goodIn_of _ (by decide +kernel)) ggX9_reach_X9_modeOf
theorem dX9_reach_0 : decode cX9_reach 0 = .ok (.iload_n 1, 1) := by decide +kernel
theorem dX9_reach_1 : decode cX9_reach 1 = .ok (.invokestatic 187, 3) := by decide +kernel
theorem dX9_reach_4 : decode cX9_reach 4 = .ok (.ifCond .eq 42, 3) := by decide +kernel
theorem dX9_reach_7 : decode cX9_reach 7 = .ok (.aload_n 0, 1) := by decide +kernel
theorem dX9_reach_8 : decode cX9_reach 8 = .ok (.iload_n 2, 1) := by decide +kernel
theorem dX9_reach_9 : decode cX9_reach 9 = .ok (.invokevirtual 227, 3) := by decide +kernel
theorem dX9_reach_12 : decode cX9_reach 12 = .ok (.ifCond .eq 34, 3) := by decide +kernel
theorem dX9_reach_15 : decode cX9_reach 15 = .ok (.iload_n 3, 1) := by decide +kernel
theorem dX9_reach_16 : decode cX9_reach 16 = .ok (.iconst 0, 1) := by decide +kernel
theorem dX9_reach_17 : decode cX9_reach 17 = .ok (.iconst 5, 1) := by decide +kernel
theorem dX9_reach_18 : decode cX9_reach 18 = .ok (.invokestatic 66, 3) := by decide +kernel
theorem dX9_reach_21 : decode cX9_reach 21 = .ok (.ifCond .eq 25, 3) := by decide +kernel
theorem dX9_reach_24 : decode cX9_reach 24 = .ok (.iload 4, 2) := by decide +kernel
theorem dX9_reach_26 : decode cX9_reach 26 = .ok (.iconst 0, 1) := by decide +kernel
theorem dX9_reach_27 : decode cX9_reach 27 = .ok (.iconst 1, 1) := by decide +kernel
theorem dX9_reach_28 : decode cX9_reach 28 = .ok (.invokestatic 66, 3) := by decide +kernel
theorem dX9_reach_31 : decode cX9_reach 31 = .ok (.ifCond .ne 18, 3) := by decide +kernel
theorem dX9_reach_34 : decode cX9_reach 34 = .ok (.iload 4, 2) := by decide +kernel
theorem dX9_reach_36 : decode cX9_reach 36 = .ok (.bipush 10, 2) := by decide +kernel
theorem dX9_reach_38 : decode cX9_reach 38 = .ok (.bipush 14, 2) := by decide +kernel
theorem dX9_reach_40 : decode cX9_reach 40 = .ok (.invokestatic 66, 3) := by decide +kernel
theorem dX9_reach_43 : decode cX9_reach 43 = .ok (.ifCond .ne 6, 3) := by decide +kernel
theorem dX9_reach_46 : decode cX9_reach 46 = .ok (.bipush (-2), 2) := by decide +kernel
theorem dX9_reach_48 : decode cX9_reach 48 = .ok (.ireturn, 1) := by decide +kernel
theorem dX9_reach_49 : decode cX9_reach 49 = .ok (.aload_n 0, 1) := by decide +kernel
theorem dX9_reach_50 : decode cX9_reach 50 = .ok (.iload_n 1, 1) := by decide +kernel
theorem dX9_reach_51 : decode cX9_reach 51 = .ok (.iload_n 2, 1) := by decide +kernel
theorem dX9_reach_52 : decode cX9_reach 52 = .ok (.iload_n 3, 1) := by decide +kernel
theorem dX9_reach_53 : decode cX9_reach 53 = .ok (.invokevirtual 230, 3) := by decide +kernel
theorem dX9_reach_56 : decode cX9_reach 56 = .ok (.iload 4, 2) := by decide +kernel
theorem dX9_reach_58 : decode cX9_reach 58 = .ok (.iconst 2, 1) := by decide +kernel
theorem dX9_reach_59 : decode cX9_reach 59 = .ok (.if_icmp .ge 20, 3) := by decide +kernel
theorem dX9_reach_62 : decode cX9_reach 62 = .ok (.iload 4, 2) := by decide +kernel
theorem dX9_reach_64 : decode cX9_reach 64 = .ok (.ifCond .ne 10, 3) := by decide +kernel
theorem dX9_reach_67 : decode cX9_reach 67 = .ok (.aload_n 0, 1) := by decide +kernel
theorem dX9_reach_68 : decode cX9_reach 68 = .ok (.getfield 215, 3) := by decide +kernel
theorem dX9_reach_71 : decode cX9_reach 71 = .ok (.goto 7, 3) := by decide +kernel
theorem dX9_reach_74 : decode cX9_reach 74 = .ok (.aload_n 0, 1) := by decide +kernel
theorem dX9_reach_75 : decode cX9_reach 75 = .ok (.getfield 218, 3) := by decide +kernel
theorem dX9_reach_78 : decode cX9_reach 78 = .ok (.ireturn, 1) := by decide +kernel
theorem dX9_reach_79 : decode cX9_reach 79 = .ok (.bipush (-9), 2) := by decide +kernel
theorem dX9_reach_81 : decode cX9_reach 81 = .ok (.istore 5, 2) := by decide +kernel
theorem dX9_reach_83 : decode cX9_reach 83 = .ok (.iconst 0, 1) := by decide +kernel
theorem dX9_reach_84 : decode cX9_reach 84 = .ok (.istore 6, 2) := by decide +kernel
theorem dX9_reach_86 : decode cX9_reach 86 = .ok (.iload 6, 2) := by decide +kernel
theorem dX9_reach_88 : decode cX9_reach 88 = .ok (.aload_n 0, 1) := by decide +kernel
theorem dX9_reach_89 : decode cX9_reach 89 = .ok (.getfield 215, 3) := by decide +kernel
theorem dX9_reach_92 : decode cX9_reach 92 = .ok (.if_icmp .ge 73, 3) := by decide +kernel
theorem dX9_reach_95 : decode cX9_reach 95 = .ok (.aload_n 0, 1) := by decide +kernel
theorem dX9_reach_96 : decode cX9_reach 96 = .ok (.aload_n 0, 1) := by decide +kernel
theorem dX9_reach_97 : decode cX9_reach 97 = .ok (.getfield 59, 3) := by decide +kernel
theorem dX9_reach_100 : decode cX9_reach 100 = .ok (.iload 6, 2) := by decide +kernel
theorem dX9_reach_102 : decode cX9_reach 102 = .ok (.laload, 1) := by decide +kernel
theorem dX9_reach_103 : decode cX9_reach 103 = .ok (.invokevirtual 233, 3) := by decide +kernel
theorem dX9_reach_106 : decode cX9_reach 106 = .ok (.iload 4, 2) := by decide +kernel
theorem dX9_reach_108 : decode cX9_reach 108 = .ok (.bipush 10, 2) := by decide +kernel
theorem dX9_reach_110 : decode cX9_reach 110 = .ok (.isub, 1) := by decide +kernel
theorem dX9_reach_111 : decode cX9_reach 111 = .ok (.if_icmp .ne 7, 3) := by decide +kernel
theorem dX9_reach_114 : decode cX9_reach 114 = .ok (.iconst 1, 1) := by decide +kernel
theorem dX9_reach_115 : decode cX9_reach 115 = .ok (.goto 4, 3) := by decide +kernel
theorem dX9_reach_118 : decode cX9_reach 118 = .ok (.iconst 0, 1) := by decide +kernel
theorem dX9_reach_119 : decode cX9_reach 119 = .ok (.istore 7, 2) := by decide +kernel
theorem dX9_reach_121 : decode cX9_reach 121 = .ok (.iload 7, 2) := by decide +kernel
theorem dX9_reach_123 : decode cX9_reach 123 = .ok (.ifCond .eq 32, 3) := by decide +kernel
theorem dX9_reach_126 : decode cX9_reach 126 = .ok (.iload 5, 2) := by decide +kernel
theorem dX9_reach_128 : decode cX9_reach 128 = .ok (.bipush (-9), 2) := by decide +kernel
theorem dX9_reach_130 : decode cX9_reach 130 = .ok (.if_icmp .eq 15, 3) := by decide +kernel
theorem dX9_reach_133 : decode cX9_reach 133 = .ok (.aload_n 0, 1) := by decide +kernel
theorem dX9_reach_134 : decode cX9_reach 134 = .ok (.getfield 63, 3) := by decide +kernel
theorem dX9_reach_137 : decode cX9_reach 137 = .ok (.iload 6, 2) := by decide +kernel
theorem dX9_reach_139 : decode cX9_reach 139 = .ok (.iaload, 1) := by decide +kernel
theorem dX9_reach_140 : decode cX9_reach 140 = .ok (.iload 5, 2) := by decide +kernel
theorem dX9_reach_142 : decode cX9_reach 142 = .ok (.if_icmp .ge 13, 3) := by decide +kernel
theorem dX9_reach_145 : decode cX9_reach 145 = .ok (.aload_n 0, 1) := by decide +kernel
theorem dX9_reach_146 : decode cX9_reach 146 = .ok (.getfield 63, 3) := by decide +kernel
theorem dX9_reach_149 : decode cX9_reach 149 = .ok (.iload 6, 2) := by decide +kernel
theorem dX9_reach_151 : decode cX9_reach 151 = .ok (.iaload, 1) := by decide +kernel
theorem dX9_reach_152 : decode cX9_reach 152 = .ok (.goto 5, 3) := by decide +kernel
theorem dX9_reach_155 : decode cX9_reach 155 = .ok (.iload 5, 2) := by decide +kernel
theorem dX9_reach_157 : decode cX9_reach 157 = .ok (.istore 5, 2) := by decide +kernel
theorem dX9_reach_159 : decode cX9_reach 159 = .ok (.iinc 6 1, 3) := by decide +kernel
theorem dX9_reach_162 : decode cX9_reach 162 = .ok (.goto (-76), 3) := by decide +kernel
theorem dX9_reach_165 : decode cX9_reach 165 = .ok (.iload 5, 2) := by decide +kernel
theorem dX9_reach_167 : decode cX9_reach 167 = .ok (.ireturn, 1) := by decide +kernel
theorem dX9_many_0 : decode cX9_many 0 = .ok (.iconst 0, 1) := by decide +kernel
theorem dX9_many_1 : decode cX9_many 1 = .ok (.istore_n 2, 1) := by decide +kernel
theorem dX9_many_2 : decode cX9_many 2 = .ok (.iload_n 1, 1) := by decide +kernel
theorem dX9_many_3 : decode cX9_many 3 = .ok (.tableswitch 132 0 6 #[41, 46, 51, 56, 61, 95, 127], 41) := by decide +kernel
theorem dX9_many_44 : decode cX9_many 44 = .ok (.aload_n 0, 1) := by decide +kernel
theorem dX9_many_45 : decode cX9_many 45 = .ok (.getfield 170, 3) := by decide +kernel
theorem dX9_many_48 : decode cX9_many 48 = .ok (.ireturn, 1) := by decide +kernel
theorem dX9_many_49 : decode cX9_many 49 = .ok (.aload_n 0, 1) := by decide +kernel
theorem dX9_many_50 : decode cX9_many 50 = .ok (.getfield 173, 3) := by decide +kernel
theorem dX9_many_53 : decode cX9_many 53 = .ok (.ireturn, 1) := by decide +kernel
theorem dX9_many_54 : decode cX9_many 54 = .ok (.aload_n 0, 1) := by decide +kernel
theorem dX9_many_55 : decode cX9_many 55 = .ok (.getfield 176, 3) := by decide +kernel
theorem dX9_many_58 : decode cX9_many 58 = .ok (.ireturn, 1) := by decide +kernel
theorem dX9_many_59 : decode cX9_many 59 = .ok (.aload_n 0, 1) := by decide +kernel
theorem dX9_many_60 : decode cX9_many 60 = .ok (.getfield 202, 3) := by decide +kernel
theorem dX9_many_63 : decode cX9_many 63 = .ok (.ireturn, 1) := by decide +kernel
theorem dX9_many_64 : decode cX9_many 64 = .ok (.iconst 0, 1) := by decide +kernel
theorem dX9_many_65 : decode cX9_many 65 = .ok (.istore_n 3, 1) := by decide +kernel
theorem dX9_many_66 : decode cX9_many 66 = .ok (.iload_n 3, 1) := by decide +kernel
theorem dX9_many_67 : decode cX9_many 67 = .ok (.bipush 9, 2) := by decide +kernel
theorem dX9_many_69 : decode cX9_many 69 = .ok (.if_icmp .ge 27, 3) := by decide +kernel
theorem dX9_many_72 : decode cX9_many 72 = .ok (.iload_n 2, 1) := by decide +kernel
theorem dX9_many_73 : decode cX9_many 73 = .ok (.aload_n 0, 1) := by decide +kernel
theorem dX9_many_74 : decode cX9_many 74 = .ok (.getfield 25, 3) := by decide +kernel
theorem dX9_many_77 : decode cX9_many 77 = .ok (.iload_n 3, 1) := by decide +kernel
theorem dX9_many_78 : decode cX9_many 78 = .ok (.iaload, 1) := by decide +kernel
theorem dX9_many_79 : decode cX9_many 79 = .ok (.iconst 2, 1) := by decide +kernel
theorem dX9_many_80 : decode cX9_many 80 = .ok (.if_icmp .eq 7, 3) := by decide +kernel
theorem dX9_many_83 : decode cX9_many 83 = .ok (.iconst 1, 1) := by decide +kernel
theorem dX9_many_84 : decode cX9_many 84 = .ok (.goto 4, 3) := by decide +kernel
theorem dX9_many_87 : decode cX9_many 87 = .ok (.iconst 0, 1) := by decide +kernel
theorem dX9_many_88 : decode cX9_many 88 = .ok (.iadd, 1) := by decide +kernel
theorem dX9_many_89 : decode cX9_many 89 = .ok (.istore_n 2, 1) := by decide +kernel
theorem dX9_many_90 : decode cX9_many 90 = .ok (.iinc 3 1, 3) := by decide +kernel
theorem dX9_many_93 : decode cX9_many 93 = .ok (.goto (-27), 3) := by decide +kernel
theorem dX9_many_96 : decode cX9_many 96 = .ok (.iload_n 2, 1) := by decide +kernel
theorem dX9_many_97 : decode cX9_many 97 = .ok (.ireturn, 1) := by decide +kernel
theorem dX9_many_98 : decode cX9_many 98 = .ok (.aload_n 0, 1) := by decide +kernel
theorem dX9_many_99 : decode cX9_many 99 = .ok (.getfield 29, 3) := by decide +kernel
theorem dX9_many_102 : decode cX9_many 102 = .ok (.iconst 0, 1) := by decide +kernel
theorem dX9_many_103 : decode cX9_many 103 = .ok (.iaload, 1) := by decide +kernel
theorem dX9_many_104 : decode cX9_many 104 = .ok (.iconst 2, 1) := by decide +kernel
theorem dX9_many_105 : decode cX9_many 105 = .ok (.if_icmp .eq 7, 3) := by decide +kernel
theorem dX9_many_108 : decode cX9_many 108 = .ok (.iconst 1, 1) := by decide +kernel
theorem dX9_many_109 : decode cX9_many 109 = .ok (.goto 4, 3) := by decide +kernel
theorem dX9_many_112 : decode cX9_many 112 = .ok (.iconst 0, 1) := by decide +kernel
theorem dX9_many_113 : decode cX9_many 113 = .ok (.aload_n 0, 1) := by decide +kernel
theorem dX9_many_114 : decode cX9_many 114 = .ok (.getfield 29, 3) := by decide +kernel
theorem dX9_many_117 : decode cX9_many 117 = .ok (.iconst 1, 1) := by decide +kernel
theorem dX9_many_118 : decode cX9_many 118 = .ok (.iaload, 1) := by decide +kernel
theorem dX9_many_119 : decode cX9_many 119 = .ok (.iconst 2, 1) := by decide +kernel
theorem dX9_many_120 : decode cX9_many 120 = .ok (.if_icmp .eq 7, 3) := by decide +kernel
theorem dX9_many_123 : decode cX9_many 123 = .ok (.iconst 1, 1) := by decide +kernel
theorem dX9_many_124 : decode cX9_many 124 = .ok (.goto 4, 3) := by decide +kernel
theorem dX9_many_127 : decode cX9_many 127 = .ok (.iconst 0, 1) := by decide +kernel
theorem dX9_many_128 : decode cX9_many 128 = .ok (.iadd, 1) := by decide +kernel
theorem dX9_many_129 : decode cX9_many 129 = .ok (.ireturn, 1) := by decide +kernel
theorem dX9_many_130 : decode cX9_many 130 = .ok (.aload_n 0, 1) := by decide +kernel
theorem dX9_many_131 : decode cX9_many 131 = .ok (.getfield 179, 3) := by decide +kernel
theorem dX9_many_134 : decode cX9_many 134 = .ok (.ireturn, 1) := by decide +kernel
theorem dX9_many_135 : decode cX9_many 135 = .ok (.bipush (-2), 2) := by decide +kernel
theorem dX9_many_137 : decode cX9_many 137 = .ok (.ireturn, 1) := by decide +kernel
theorem dJ6_bitCount_0f7a4_0 : decode cJ6_bitCount_0f7a4 0 = .ok (.iload_n 0, 1) := by decide +kernel
theorem dJ6_bitCount_0f7a4_1 : decode cJ6_bitCount_0f7a4 1 = .ok (.iload_n 0, 1) := by decide +kernel
theorem dJ6_bitCount_0f7a4_2 : decode cJ6_bitCount_0f7a4 2 = .ok (.iconst 1, 1) := by decide +kernel
theorem dJ6_bitCount_0f7a4_3 : decode cJ6_bitCount_0f7a4 3 = .ok (.iushr, 1) := by decide +kernel
theorem dJ6_bitCount_0f7a4_4 : decode cJ6_bitCount_0f7a4 4 = .ok (.ldc_w 265, 3) := by decide +kernel
theorem dJ6_bitCount_0f7a4_7 : decode cJ6_bitCount_0f7a4 7 = .ok (.iand, 1) := by decide +kernel
theorem dJ6_bitCount_0f7a4_8 : decode cJ6_bitCount_0f7a4 8 = .ok (.isub, 1) := by decide +kernel
theorem dJ6_bitCount_0f7a4_9 : decode cJ6_bitCount_0f7a4 9 = .ok (.istore_n 0, 1) := by decide +kernel
theorem dJ6_bitCount_0f7a4_10 : decode cJ6_bitCount_0f7a4 10 = .ok (.iload_n 0, 1) := by decide +kernel
theorem dJ6_bitCount_0f7a4_11 : decode cJ6_bitCount_0f7a4 11 = .ok (.ldc_w 266, 3) := by decide +kernel
theorem dJ6_bitCount_0f7a4_14 : decode cJ6_bitCount_0f7a4 14 = .ok (.iand, 1) := by decide +kernel
theorem dJ6_bitCount_0f7a4_15 : decode cJ6_bitCount_0f7a4 15 = .ok (.iload_n 0, 1) := by decide +kernel
theorem dJ6_bitCount_0f7a4_16 : decode cJ6_bitCount_0f7a4 16 = .ok (.iconst 2, 1) := by decide +kernel
theorem dJ6_bitCount_0f7a4_17 : decode cJ6_bitCount_0f7a4 17 = .ok (.iushr, 1) := by decide +kernel
theorem dJ6_bitCount_0f7a4_18 : decode cJ6_bitCount_0f7a4 18 = .ok (.ldc_w 266, 3) := by decide +kernel
theorem dJ6_bitCount_0f7a4_21 : decode cJ6_bitCount_0f7a4 21 = .ok (.iand, 1) := by decide +kernel
theorem dJ6_bitCount_0f7a4_22 : decode cJ6_bitCount_0f7a4 22 = .ok (.iadd, 1) := by decide +kernel
theorem dJ6_bitCount_0f7a4_23 : decode cJ6_bitCount_0f7a4 23 = .ok (.istore_n 0, 1) := by decide +kernel
theorem dJ6_bitCount_0f7a4_24 : decode cJ6_bitCount_0f7a4 24 = .ok (.iload_n 0, 1) := by decide +kernel
theorem dJ6_bitCount_0f7a4_25 : decode cJ6_bitCount_0f7a4 25 = .ok (.iload_n 0, 1) := by decide +kernel
theorem dJ6_bitCount_0f7a4_26 : decode cJ6_bitCount_0f7a4 26 = .ok (.iconst 4, 1) := by decide +kernel
theorem dJ6_bitCount_0f7a4_27 : decode cJ6_bitCount_0f7a4 27 = .ok (.iushr, 1) := by decide +kernel
theorem dJ6_bitCount_0f7a4_28 : decode cJ6_bitCount_0f7a4 28 = .ok (.iadd, 1) := by decide +kernel
theorem dJ6_bitCount_0f7a4_29 : decode cJ6_bitCount_0f7a4 29 = .ok (.ldc_w 267, 3) := by decide +kernel
theorem dJ6_bitCount_0f7a4_32 : decode cJ6_bitCount_0f7a4 32 = .ok (.iand, 1) := by decide +kernel
theorem dJ6_bitCount_0f7a4_33 : decode cJ6_bitCount_0f7a4 33 = .ok (.istore_n 0, 1) := by decide +kernel
theorem dJ6_bitCount_0f7a4_34 : decode cJ6_bitCount_0f7a4 34 = .ok (.iload_n 0, 1) := by decide +kernel
theorem dJ6_bitCount_0f7a4_35 : decode cJ6_bitCount_0f7a4 35 = .ok (.iload_n 0, 1) := by decide +kernel
theorem dJ6_bitCount_0f7a4_36 : decode cJ6_bitCount_0f7a4 36 = .ok (.bipush 8, 2) := by decide +kernel
theorem dJ6_bitCount_0f7a4_38 : decode cJ6_bitCount_0f7a4 38 = .ok (.iushr, 1) := by decide +kernel
theorem dJ6_bitCount_0f7a4_39 : decode cJ6_bitCount_0f7a4 39 = .ok (.iadd, 1) := by decide +kernel
theorem dJ6_bitCount_0f7a4_40 : decode cJ6_bitCount_0f7a4 40 = .ok (.istore_n 0, 1) := by decide +kernel
theorem dJ6_bitCount_0f7a4_41 : decode cJ6_bitCount_0f7a4 41 = .ok (.iload_n 0, 1) := by decide +kernel
theorem dJ6_bitCount_0f7a4_42 : decode cJ6_bitCount_0f7a4 42 = .ok (.iload_n 0, 1) := by decide +kernel
theorem dJ6_bitCount_0f7a4_43 : decode cJ6_bitCount_0f7a4 43 = .ok (.bipush 16, 2) := by decide +kernel
theorem dJ6_bitCount_0f7a4_45 : decode cJ6_bitCount_0f7a4 45 = .ok (.iushr, 1) := by decide +kernel
theorem dJ6_bitCount_0f7a4_46 : decode cJ6_bitCount_0f7a4 46 = .ok (.iadd, 1) := by decide +kernel
theorem dJ6_bitCount_0f7a4_47 : decode cJ6_bitCount_0f7a4 47 = .ok (.istore_n 0, 1) := by decide +kernel
theorem dJ6_bitCount_0f7a4_48 : decode cJ6_bitCount_0f7a4 48 = .ok (.iload_n 0, 1) := by decide +kernel
theorem dJ6_bitCount_0f7a4_49 : decode cJ6_bitCount_0f7a4 49 = .ok (.bipush 63, 2) := by decide +kernel
theorem dJ6_bitCount_0f7a4_51 : decode cJ6_bitCount_0f7a4 51 = .ok (.iand, 1) := by decide +kernel
theorem dJ6_bitCount_0f7a4_52 : decode cJ6_bitCount_0f7a4 52 = .ok (.ireturn, 1) := by decide +kernel
theorem dJ9_max_7cf53_0 : decode cJ9_max_7cf53 0 = .ok (.iload_n 0, 1) := by decide +kernel
theorem dJ9_max_7cf53_1 : decode cJ9_max_7cf53 1 = .ok (.iload_n 1, 1) := by decide +kernel
theorem dJ9_max_7cf53_2 : decode cJ9_max_7cf53 2 = .ok (.if_icmp .lt 7, 3) := by decide +kernel
theorem dJ9_max_7cf53_5 : decode cJ9_max_7cf53 5 = .ok (.iload_n 0, 1) := by decide +kernel
theorem dJ9_max_7cf53_6 : decode cJ9_max_7cf53 6 = .ok (.goto 4, 3) := by decide +kernel
theorem dJ9_max_7cf53_9 : decode cJ9_max_7cf53 9 = .ok (.iload_n 1, 1) := by decide +kernel
theorem dJ9_max_7cf53_10 : decode cJ9_max_7cf53 10 = .ok (.ireturn, 1) := by decide +kernel
theorem dJ9_min_7cf53_0 : decode cJ9_min_7cf53 0 = .ok (.iload_n 0, 1) := by decide +kernel
theorem dJ9_min_7cf53_1 : decode cJ9_min_7cf53 1 = .ok (.iload_n 1, 1) := by decide +kernel
theorem dJ9_min_7cf53_2 : decode cJ9_min_7cf53 2 = .ok (.if_icmp .gt 7, 3) := by decide +kernel
theorem dJ9_min_7cf53_5 : decode cJ9_min_7cf53 5 = .ok (.iload_n 0, 1) := by decide +kernel
theorem dJ9_min_7cf53_6 : decode cJ9_min_7cf53 6 = .ok (.goto 4, 3) := by decide +kernel
theorem dJ9_min_7cf53_9 : decode cJ9_min_7cf53 9 = .ok (.iload_n 1, 1) := by decide +kernel
theorem dJ9_min_7cf53_10 : decode cJ9_min_7cf53 10 = .ok (.ireturn, 1) := by decide +kernel
theorem dJ7_fill_d0a16_0 : decode cJ7_fill_d0a16 0 = .ok (.iconst 0, 1) := by decide +kernel
theorem dJ7_fill_d0a16_1 : decode cJ7_fill_d0a16 1 = .ok (.istore_n 3, 1) := by decide +kernel
theorem dJ7_fill_d0a16_2 : decode cJ7_fill_d0a16 2 = .ok (.aload_n 0, 1) := by decide +kernel
theorem dJ7_fill_d0a16_3 : decode cJ7_fill_d0a16 3 = .ok (.arraylength, 1) := by decide +kernel
theorem dJ7_fill_d0a16_4 : decode cJ7_fill_d0a16 4 = .ok (.istore 4, 2) := by decide +kernel
theorem dJ7_fill_d0a16_6 : decode cJ7_fill_d0a16 6 = .ok (.iload_n 3, 1) := by decide +kernel
theorem dJ7_fill_d0a16_7 : decode cJ7_fill_d0a16 7 = .ok (.iload 4, 2) := by decide +kernel
theorem dJ7_fill_d0a16_9 : decode cJ7_fill_d0a16 9 = .ok (.if_icmp .ge 13, 3) := by decide +kernel
theorem dJ7_fill_d0a16_12 : decode cJ7_fill_d0a16 12 = .ok (.aload_n 0, 1) := by decide +kernel
theorem dJ7_fill_d0a16_13 : decode cJ7_fill_d0a16 13 = .ok (.iload_n 3, 1) := by decide +kernel
theorem dJ7_fill_d0a16_14 : decode cJ7_fill_d0a16 14 = .ok (.lload_n 1, 1) := by decide +kernel
theorem dJ7_fill_d0a16_15 : decode cJ7_fill_d0a16 15 = .ok (.lastore, 1) := by decide +kernel
theorem dJ7_fill_d0a16_16 : decode cJ7_fill_d0a16 16 = .ok (.iinc 3 1, 3) := by decide +kernel
theorem dJ7_fill_d0a16_19 : decode cJ7_fill_d0a16 19 = .ok (.goto (-13), 3) := by decide +kernel
theorem dJ7_fill_d0a16_22 : decode cJ7_fill_d0a16 22 = .ok (.return_, 1) := by decide +kernel
theorem dJ7_fill_53178_0 : decode cJ7_fill_53178 0 = .ok (.iconst 0, 1) := by decide +kernel
theorem dJ7_fill_53178_1 : decode cJ7_fill_53178 1 = .ok (.istore_n 2, 1) := by decide +kernel
theorem dJ7_fill_53178_2 : decode cJ7_fill_53178 2 = .ok (.aload_n 0, 1) := by decide +kernel
theorem dJ7_fill_53178_3 : decode cJ7_fill_53178 3 = .ok (.arraylength, 1) := by decide +kernel
theorem dJ7_fill_53178_4 : decode cJ7_fill_53178 4 = .ok (.istore_n 3, 1) := by decide +kernel
theorem dJ7_fill_53178_5 : decode cJ7_fill_53178 5 = .ok (.iload_n 2, 1) := by decide +kernel
theorem dJ7_fill_53178_6 : decode cJ7_fill_53178 6 = .ok (.iload_n 3, 1) := by decide +kernel
theorem dJ7_fill_53178_7 : decode cJ7_fill_53178 7 = .ok (.if_icmp .ge 13, 3) := by decide +kernel
theorem dJ7_fill_53178_10 : decode cJ7_fill_53178 10 = .ok (.aload_n 0, 1) := by decide +kernel
theorem dJ7_fill_53178_11 : decode cJ7_fill_53178 11 = .ok (.iload_n 2, 1) := by decide +kernel
theorem dJ7_fill_53178_12 : decode cJ7_fill_53178 12 = .ok (.iload_n 1, 1) := by decide +kernel
theorem dJ7_fill_53178_13 : decode cJ7_fill_53178 13 = .ok (.iastore, 1) := by decide +kernel
theorem dJ7_fill_53178_14 : decode cJ7_fill_53178 14 = .ok (.iinc 2 1, 3) := by decide +kernel
theorem dJ7_fill_53178_17 : decode cJ7_fill_53178 17 = .ok (.goto (-12), 3) := by decide +kernel
theorem dJ7_fill_53178_20 : decode cJ7_fill_53178 20 = .ok (.return_, 1) := by decide +kernel
end
