-- ===== PART A: goes FIRST, ahead of the names: the tables' words, and 'selects' of the private methods out of them =====
/-- a private method of a class that the tables say can be made, by its rows of tables_1 -/
def lw_okq (q : MethodName × Nat) : Prop := (q.1.cls ≠ "java/lang/invoke/MethodHandle" ∧ q.1.cls ≠ "java/lang/invoke/VarHandle") ∧ Cond.instantiable q.1.cls q.2 ∈ tables_1 ∧ Cond.privateMethod q.1 ∈ tables_1 ∧ Cond.instanceMethod q.1 ∈ tables_1
theorem lw_p0 : lw_okq (⟨"QuestionLadder$FitSets", "sort", "(LQuestionLadder$Bank;)V"⟩, 8) := ⟨⟨by decide +kernel, by decide +kernel⟩, List.mem_of_getElem? (i := 73) (by decide +kernel), List.mem_of_getElem? (i := 219) (by decide +kernel), List.mem_of_getElem? (i := 220) (by decide +kernel)⟩
theorem lw_p1 : lw_okq (⟨"QuestionLadder$FitSets", "clear", "()V"⟩, 8) := ⟨⟨by decide +kernel, by decide +kernel⟩, List.mem_of_getElem? (i := 73) (by decide +kernel), List.mem_of_getElem? (i := 223) (by decide +kernel), List.mem_of_getElem? (i := 224) (by decide +kernel)⟩
theorem lw_p2 : lw_okq (⟨"QuestionLadder$FitSets", "sortOne", "([II)V"⟩, 8) := ⟨⟨by decide +kernel, by decide +kernel⟩, List.mem_of_getElem? (i := 73) (by decide +kernel), List.mem_of_getElem? (i := 234) (by decide +kernel), List.mem_of_getElem? (i := 235) (by decide +kernel)⟩
theorem lw_p3 : lw_okq (⟨"QuestionLadder$FitSets", "total", "()I"⟩, 8) := ⟨⟨by decide +kernel, by decide +kernel⟩, List.mem_of_getElem? (i := 73) (by decide +kernel), List.mem_of_getElem? (i := 239) (by decide +kernel), List.mem_of_getElem? (i := 240) (by decide +kernel)⟩
theorem lw_p4 : lw_okq (⟨"QuestionLadder$FitSets", "keepsRules", "(ILQuestionLadder$Rules;)Z"⟩, 8) := ⟨⟨by decide +kernel, by decide +kernel⟩, List.mem_of_getElem? (i := 73) (by decide +kernel), List.mem_of_getElem? (i := 243) (by decide +kernel), List.mem_of_getElem? (i := 244) (by decide +kernel)⟩
theorem lw_p5 : lw_okq (⟨"QuestionLadder$FitSets", "keepsCompany", "(I)Z"⟩, 8) := ⟨⟨by decide +kernel, by decide +kernel⟩, List.mem_of_getElem? (i := 73) (by decide +kernel), List.mem_of_getElem? (i := 253) (by decide +kernel), List.mem_of_getElem? (i := 254) (by decide +kernel)⟩
theorem lw_p6 : lw_okq (⟨"QuestionLadder$FitSets", "isPartOfBigger", "(I)Z"⟩, 8) := ⟨⟨by decide +kernel, by decide +kernel⟩, List.mem_of_getElem? (i := 73) (by decide +kernel), List.mem_of_getElem? (i := 268) (by decide +kernel), List.mem_of_getElem? (i := 269) (by decide +kernel)⟩
theorem lw_p7 : lw_okq (⟨"QuestionLadder$FitSets", "isPartOfFit", "(I)Z"⟩, 8) := ⟨⟨by decide +kernel, by decide +kernel⟩, List.mem_of_getElem? (i := 73) (by decide +kernel), List.mem_of_getElem? (i := 275) (by decide +kernel), List.mem_of_getElem? (i := 276) (by decide +kernel)⟩
theorem lw_p8 : lw_okq (⟨"QuestionLadder", "askable", "()I"⟩, 4) := ⟨⟨by decide +kernel, by decide +kernel⟩, List.mem_of_getElem? (i := 12) (by decide +kernel), List.mem_of_getElem? (i := 286) (by decide +kernel), List.mem_of_getElem? (i := 287) (by decide +kernel)⟩
theorem lw_p9 : lw_okq (⟨"QuestionLadder$FitSets", "restOfBegunTexts", "(I)I"⟩, 8) := ⟨⟨by decide +kernel, by decide +kernel⟩, List.mem_of_getElem? (i := 73) (by decide +kernel), List.mem_of_getElem? (i := 294) (by decide +kernel), List.mem_of_getElem? (i := 295) (by decide +kernel)⟩
theorem lw_p10 : lw_okq (⟨"QuestionLadder", "doneness", "()I"⟩, 4) := ⟨⟨by decide +kernel, by decide +kernel⟩, List.mem_of_getElem? (i := 12) (by decide +kernel), List.mem_of_getElem? (i := 303) (by decide +kernel), List.mem_of_getElem? (i := 304) (by decide +kernel)⟩
theorem lw_p11 : lw_okq (⟨"QuestionLadder", "mostTelling", "(I)I"⟩, 4) := ⟨⟨by decide +kernel, by decide +kernel⟩, List.mem_of_getElem? (i := 12) (by decide +kernel), List.mem_of_getElem? (i := 330) (by decide +kernel), List.mem_of_getElem? (i := 331) (by decide +kernel)⟩
theorem lw_p12 : lw_okq (⟨"QuestionLadder", "compareGains", "(II)I"⟩, 4) := ⟨⟨by decide +kernel, by decide +kernel⟩, List.mem_of_getElem? (i := 12) (by decide +kernel), List.mem_of_getElem? (i := 335) (by decide +kernel), List.mem_of_getElem? (i := 336) (by decide +kernel)⟩
theorem lw_p13 : lw_okq (⟨"QuestionLadderModel", "isQuestion", "(I)Z"⟩, 23) := ⟨⟨by decide +kernel, by decide +kernel⟩, List.mem_of_getElem? (i := 436) (by decide +kernel), List.mem_of_getElem? (i := 528) (by decide +kernel), List.mem_of_getElem? (i := 529) (by decide +kernel)⟩
theorem lw_p14 : lw_okq (⟨"QuestionLadderModel", "findFits", "()I"⟩, 23) := ⟨⟨by decide +kernel, by decide +kernel⟩, List.mem_of_getElem? (i := 436) (by decide +kernel), List.mem_of_getElem? (i := 556) (by decide +kernel), List.mem_of_getElem? (i := 557) (by decide +kernel)⟩
theorem lw_p15 : lw_okq (⟨"QuestionLadderModel", "isFit", "(I)Z"⟩, 23) := ⟨⟨by decide +kernel, by decide +kernel⟩, List.mem_of_getElem? (i := 436) (by decide +kernel), List.mem_of_getElem? (i := 560) (by decide +kernel), List.mem_of_getElem? (i := 561) (by decide +kernel)⟩
def lw_privs_1 : List (MethodName × Nat) := [(⟨"QuestionLadder$FitSets", "sort", "(LQuestionLadder$Bank;)V"⟩, 8), (⟨"QuestionLadder$FitSets", "clear", "()V"⟩, 8), (⟨"QuestionLadder$FitSets", "sortOne", "([II)V"⟩, 8), (⟨"QuestionLadder$FitSets", "total", "()I"⟩, 8), (⟨"QuestionLadder$FitSets", "keepsRules", "(ILQuestionLadder$Rules;)Z"⟩, 8), (⟨"QuestionLadder$FitSets", "keepsCompany", "(I)Z"⟩, 8), (⟨"QuestionLadder$FitSets", "isPartOfBigger", "(I)Z"⟩, 8), (⟨"QuestionLadder$FitSets", "isPartOfFit", "(I)Z"⟩, 8), (⟨"QuestionLadder", "askable", "()I"⟩, 4), (⟨"QuestionLadder$FitSets", "restOfBegunTexts", "(I)I"⟩, 8), (⟨"QuestionLadder", "doneness", "()I"⟩, 4), (⟨"QuestionLadder", "mostTelling", "(I)I"⟩, 4), (⟨"QuestionLadder", "compareGains", "(II)I"⟩, 4), (⟨"QuestionLadderModel", "isQuestion", "(I)Z"⟩, 23), (⟨"QuestionLadderModel", "findFits", "()I"⟩, 23), (⟨"QuestionLadderModel", "isFit", "(I)Z"⟩, 23)]
theorem lw_r1 : ∀ q ∈ lw_privs_1, lw_okq q := List.forall_mem_cons.mpr ⟨lw_p0, List.forall_mem_cons.mpr ⟨lw_p1, List.forall_mem_cons.mpr ⟨lw_p2, List.forall_mem_cons.mpr ⟨lw_p3, List.forall_mem_cons.mpr ⟨lw_p4, List.forall_mem_cons.mpr ⟨lw_p5, List.forall_mem_cons.mpr ⟨lw_p6, List.forall_mem_cons.mpr ⟨lw_p7, List.forall_mem_cons.mpr ⟨lw_p8, List.forall_mem_cons.mpr ⟨lw_p9, List.forall_mem_cons.mpr ⟨lw_p10, List.forall_mem_cons.mpr ⟨lw_p11, List.forall_mem_cons.mpr ⟨lw_p12, List.forall_mem_cons.mpr ⟨lw_p13, List.forall_mem_cons.mpr ⟨lw_p14, List.forall_mem_cons.mpr ⟨lw_p15, fun _ h => absurd h List.not_mem_nil⟩⟩⟩⟩⟩⟩⟩⟩⟩⟩⟩⟩⟩⟩⟩⟩
theorem lw_p16 : lw_okq (⟨"QuestionLadderModel", "isGroupWell", "(II)Z"⟩, 23) := ⟨⟨by decide +kernel, by decide +kernel⟩, List.mem_of_getElem? (i := 436) (by decide +kernel), List.mem_of_getElem? (i := 567) (by decide +kernel), List.mem_of_getElem? (i := 568) (by decide +kernel)⟩
theorem lw_p17 : lw_okq (⟨"QuestionLadderModel", "mayMany", "()I"⟩, 23) := ⟨⟨by decide +kernel, by decide +kernel⟩, List.mem_of_getElem? (i := 436) (by decide +kernel), List.mem_of_getElem? (i := 575) (by decide +kernel), List.mem_of_getElem? (i := 576) (by decide +kernel)⟩
theorem lw_p18 : lw_okq (⟨"QuestionLadderModel", "askedSet", "()I"⟩, 23) := ⟨⟨by decide +kernel, by decide +kernel⟩, List.mem_of_getElem? (i := 436) (by decide +kernel), List.mem_of_getElem? (i := 579) (by decide +kernel), List.mem_of_getElem? (i := 580) (by decide +kernel)⟩
theorem lw_p19 : lw_okq (⟨"QuestionLadderModel", "mayBe", "(II)Z"⟩, 23) := ⟨⟨by decide +kernel, by decide +kernel⟩, List.mem_of_getElem? (i := 436) (by decide +kernel), List.mem_of_getElem? (i := 583) (by decide +kernel), List.mem_of_getElem? (i := 584) (by decide +kernel)⟩
theorem lw_p20 : lw_okq (⟨"QuestionLadderModel", "dueText", "(I)I"⟩, 23) := ⟨⟨by decide +kernel, by decide +kernel⟩, List.mem_of_getElem? (i := 436) (by decide +kernel), List.mem_of_getElem? (i := 587) (by decide +kernel), List.mem_of_getElem? (i := 588) (by decide +kernel)⟩
theorem lw_p21 : lw_okq (⟨"QuestionLadderModel", "doneNow", "()I"⟩, 23) := ⟨⟨by decide +kernel, by decide +kernel⟩, List.mem_of_getElem? (i := 436) (by decide +kernel), List.mem_of_getElem? (i := 595) (by decide +kernel), List.mem_of_getElem? (i := 596) (by decide +kernel)⟩
theorem lw_p22 : lw_okq (⟨"QuestionLadderModel", "isSure", "(I)Z"⟩, 23) := ⟨⟨by decide +kernel, by decide +kernel⟩, List.mem_of_getElem? (i := 436) (by decide +kernel), List.mem_of_getElem? (i := 599) (by decide +kernel), List.mem_of_getElem? (i := 600) (by decide +kernel)⟩
theorem lw_p23 : lw_okq (⟨"QuestionLadderModel", "sum", "(I)J"⟩, 23) := ⟨⟨by decide +kernel, by decide +kernel⟩, List.mem_of_getElem? (i := 436) (by decide +kernel), List.mem_of_getElem? (i := 603) (by decide +kernel), List.mem_of_getElem? (i := 604) (by decide +kernel)⟩
theorem lw_p24 : lw_okq (⟨"QuestionLadderModel", "besideGain", "(II)I"⟩, 23) := ⟨⟨by decide +kernel, by decide +kernel⟩, List.mem_of_getElem? (i := 436) (by decide +kernel), List.mem_of_getElem? (i := 607) (by decide +kernel), List.mem_of_getElem? (i := 608) (by decide +kernel)⟩
theorem lw_p25 : lw_okq (⟨"QuestionLadderModel", "gainOf", "(I)V"⟩, 23) := ⟨⟨by decide +kernel, by decide +kernel⟩, List.mem_of_getElem? (i := 436) (by decide +kernel), List.mem_of_getElem? (i := 611) (by decide +kernel), List.mem_of_getElem? (i := 612) (by decide +kernel)⟩
theorem lw_p26 : lw_okq (⟨"QuestionLadderModel", "squares", "(I)J"⟩, 23) := ⟨⟨by decide +kernel, by decide +kernel⟩, List.mem_of_getElem? (i := 436) (by decide +kernel), List.mem_of_getElem? (i := 616) (by decide +kernel), List.mem_of_getElem? (i := 617) (by decide +kernel)⟩
theorem lw_p27 : lw_okq (⟨"QuestionLadderModel", "weighs", "(IIIZ)V"⟩, 23) := ⟨⟨by decide +kernel, by decide +kernel⟩, List.mem_of_getElem? (i := 436) (by decide +kernel), List.mem_of_getElem? (i := 620) (by decide +kernel), List.mem_of_getElem? (i := 621) (by decide +kernel)⟩
theorem lw_p28 : lw_okq (⟨"QuestionLadderModel", "reachesOne", "(II)Z"⟩, 23) := ⟨⟨by decide +kernel, by decide +kernel⟩, List.mem_of_getElem? (i := 436) (by decide +kernel), List.mem_of_getElem? (i := 667) (by decide +kernel), List.mem_of_getElem? (i := 668) (by decide +kernel)⟩
theorem lw_p29 : lw_okq (⟨"QuestionLadderModel", "reachesTwo", "(II)Z"⟩, 23) := ⟨⟨by decide +kernel, by decide +kernel⟩, List.mem_of_getElem? (i := 436) (by decide +kernel), List.mem_of_getElem? (i := 671) (by decide +kernel), List.mem_of_getElem? (i := 672) (by decide +kernel)⟩
theorem lw_p30 : lw_okq (⟨"QuestionLadderModel", "reachesThree", "(II)Z"⟩, 23) := ⟨⟨by decide +kernel, by decide +kernel⟩, List.mem_of_getElem? (i := 436) (by decide +kernel), List.mem_of_getElem? (i := 675) (by decide +kernel), List.mem_of_getElem? (i := 676) (by decide +kernel)⟩
def lw_privs_2 : List (MethodName × Nat) := [(⟨"QuestionLadderModel", "isGroupWell", "(II)Z"⟩, 23), (⟨"QuestionLadderModel", "mayMany", "()I"⟩, 23), (⟨"QuestionLadderModel", "askedSet", "()I"⟩, 23), (⟨"QuestionLadderModel", "mayBe", "(II)Z"⟩, 23), (⟨"QuestionLadderModel", "dueText", "(I)I"⟩, 23), (⟨"QuestionLadderModel", "doneNow", "()I"⟩, 23), (⟨"QuestionLadderModel", "isSure", "(I)Z"⟩, 23), (⟨"QuestionLadderModel", "sum", "(I)J"⟩, 23), (⟨"QuestionLadderModel", "besideGain", "(II)I"⟩, 23), (⟨"QuestionLadderModel", "gainOf", "(I)V"⟩, 23), (⟨"QuestionLadderModel", "squares", "(I)J"⟩, 23), (⟨"QuestionLadderModel", "weighs", "(IIIZ)V"⟩, 23), (⟨"QuestionLadderModel", "reachesOne", "(II)Z"⟩, 23), (⟨"QuestionLadderModel", "reachesTwo", "(II)Z"⟩, 23), (⟨"QuestionLadderModel", "reachesThree", "(II)Z"⟩, 23)]
theorem lw_r2 : ∀ q ∈ lw_privs_2, lw_okq q := List.forall_mem_cons.mpr ⟨lw_p16, List.forall_mem_cons.mpr ⟨lw_p17, List.forall_mem_cons.mpr ⟨lw_p18, List.forall_mem_cons.mpr ⟨lw_p19, List.forall_mem_cons.mpr ⟨lw_p20, List.forall_mem_cons.mpr ⟨lw_p21, List.forall_mem_cons.mpr ⟨lw_p22, List.forall_mem_cons.mpr ⟨lw_p23, List.forall_mem_cons.mpr ⟨lw_p24, List.forall_mem_cons.mpr ⟨lw_p25, List.forall_mem_cons.mpr ⟨lw_p26, List.forall_mem_cons.mpr ⟨lw_p27, List.forall_mem_cons.mpr ⟨lw_p28, List.forall_mem_cons.mpr ⟨lw_p29, List.forall_mem_cons.mpr ⟨lw_p30, fun _ h => absurd h List.not_mem_nil⟩⟩⟩⟩⟩⟩⟩⟩⟩⟩⟩⟩⟩⟩⟩
def lw_privs : List (MethodName × Nat) := lw_privs_1 ++ (lw_privs_2)
def lw_tbl : List Cond := k2_sels lw_privs ++ tables_1
theorem lw_privs_ok : ∀ q ∈ lw_privs, lw_okq q := by
  show ∀ q ∈ lw_privs_1 ++ (lw_privs_2), lw_okq q
  exact List.forall_mem_append.mpr ⟨lw_r1, lw_r2⟩
/-! ===== BEGIN words of one list among another's, by their places ===== -/
theorem goodIn_r {big : List Cond} (ws : List Cond) (ps : List Nat) (hp : ws = ps.filterMap (fun i => big[i]?)) (h : ws.all goodWord = true) : GoodIn big ws := by
  intro w hw
  have h1 := List.all_eq_true.mp h w hw
  rw [hp] at hw
  obtain ⟨i, -, hi⟩ := List.mem_filterMap.mp hw
  have hm : w ∈ big := by first | exact List.mem_of_getElem? hi | exact List.getElem?_mem hi
  exact ⟨hm, good_of_word h1⟩
theorem goodIn_app {big a b : List Cond} (ha : GoodIn big a) (hb : GoodIn big b) : GoodIn big (a ++ b) := fun w h => (List.mem_append.mp h).elim (ha w) (hb w)
theorem goodIn_ca {big a b : List Cond} {c : Cond} (ha : GoodIn big (c :: a)) (hb : GoodIn big b) : GoodIn big (c :: (a ++ b)) := fun w h => (List.mem_cons.mp h).elim (fun e => ha w (List.mem_cons.mpr (Or.inl e))) (fun h => (List.mem_append.mp h).elim (fun h => ha w (List.mem_cons.mpr (Or.inr h))) (hb w))
theorem goodIn_sub {big ws : List Cond} (hm : ∀ w ∈ ws, w ∈ big) (h : ws.all goodWord = true) : GoodIn big ws := fun w hw => ⟨hm w hw, good_of_word (List.all_eq_true.mp h w hw)⟩
/-! ===== END ===== -/
def RX0 : String := "QuestionLadder$Bank"
def TX0 : u_T := fun k => match k with
  | 0 => ("QuestionLadder$Bank", "size", "I", false)
  | _ => ("QuestionLadder$Bank", "facts", "[[I", true)
def tyX0 : Nat → FieldType := fun k => match k with
  | 0 => .int
  | _ => .array (.array .int)
abbrev wsX00 : List Cond := u_ws RX0 TX0 2
theorem nmX0 : ∀ a, a < 2 → ∀ b, b < 2 → a ≠ b → (TX0 a).2.1 ≠ (TX0 b).2.1 := by decide +kernel
theorem tyX0_ok : ∀ k, k < 2 → parseFieldDescriptor (TX0 k).2.2.1 = some (tyX0 k) := by decide +kernel
abbrev cX0_init : ByteArray := prog_2_method_1_code
def yX0_init : MethodName := ⟨RX0, "<init>", "()V"⟩
abbrev cX0_canBe : ByteArray := prog_2_method_2_code
def yX0_canBe : MethodName := ⟨RX0, "canBe", "(II)Z"⟩
abbrev cX0_areChances : ByteArray := prog_2_method_3_code
def yX0_areChances : MethodName := ⟨RX0, "areChances", "(I)Z"⟩
abbrev cX0_has : ByteArray := prog_2_method_4_code
def yX0_has : MethodName := ⟨RX0, "has", "(I)Z"⟩
abbrev cX0_add : ByteArray := prog_2_method_5_code
def yX0_add : MethodName := ⟨RX0, "add", "(I)I"⟩
abbrev cX0_fact : ByteArray := prog_2_method_6_code
def yX0_fact : MethodName := ⟨RX0, "fact", "(II)I"⟩
abbrev cX0_put : ByteArray := prog_2_method_7_code
def yX0_put : MethodName := ⟨RX0, "put", "(III)V"⟩
abbrev cX0_changeShown : ByteArray := prog_2_method_8_code
def yX0_changeShown : MethodName := ⟨RX0, "changeShown", "(II)V"⟩
abbrev cX0_row : ByteArray := prog_2_method_9_code
def yX0_row : MethodName := ⟨RX0, "row", "(I)[I"⟩
def RX1 : String := "QuestionLadder$FitSets"
def TX1 : u_T := fun k => match k with
  | 0 => ("QuestionLadder$FitSets", "size", "I", false)
  | 1 => ("QuestionLadder$FitSets", "anchors", "I", false)
  | 2 => ("QuestionLadder$FitSets", "worn", "I", false)
  | 3 => ("QuestionLadder$FitSets", "texts", "[I", true)
  | 4 => ("QuestionLadder$FitSets", "foes", "[I", true)
  | 5 => ("QuestionLadder$FitSets", "contents", "[I", true)
  | 6 => ("QuestionLadder$FitSets", "fits", "[Z", true)
  | _ => ("QuestionLadder$FitSets", "partOfFit", "[Z", true)
def tyX1 : Nat → FieldType := fun k => match k with
  | 0 => .int
  | 1 => .int
  | 2 => .int
  | 3 => .array .int
  | 4 => .array .int
  | 5 => .array .int
  | 6 => .array .boolean
  | _ => .array .boolean
abbrev wsX10 : List Cond := u_ws RX1 TX1 8
theorem nmX1 : ∀ a, a < 8 → ∀ b, b < 8 → a ≠ b → (TX1 a).2.1 ≠ (TX1 b).2.1 := by decide +kernel
theorem tyX1_ok : ∀ k, k < 8 → parseFieldDescriptor (TX1 k).2.2.1 = some (tyX1 k) := by decide +kernel
abbrev cX1_init : ByteArray := prog_3_method_1_code
def yX1_init : MethodName := ⟨RX1, "<init>", "()V"⟩
abbrev cX1_findAll : ByteArray := prog_3_method_2_code
def yX1_findAll : MethodName := ⟨RX1, "findAll", "(LQuestionLadder$Bank;LQuestionLadder$Rules;)I"⟩
abbrev cX1_spreadToParts : ByteArray := prog_3_method_3_code
def yX1_spreadToParts : MethodName := ⟨RX1, "spreadToParts", "()V"⟩
abbrev cX1_isFit : ByteArray := prog_3_method_4_code
def yX1_isFit : MethodName := ⟨RX1, "isFit", "(I)Z"⟩
abbrev cX1_askableBehind : ByteArray := prog_3_method_5_code
def yX1_askableBehind : MethodName := ⟨RX1, "askableBehind", "(I)I"⟩
abbrev cX1_total : ByteArray := prog_3_method_6_code
def yX1_total : MethodName := ⟨RX1, "total", "()I"⟩
abbrev cX1_isPartOfFit : ByteArray := prog_3_method_7_code
def yX1_isPartOfFit : MethodName := ⟨RX1, "isPartOfFit", "(I)Z"⟩
abbrev cX1_isPartOfBigger : ByteArray := prog_3_method_8_code
def yX1_isPartOfBigger : MethodName := ⟨RX1, "isPartOfBigger", "(I)Z"⟩
abbrev cX1_sort : ByteArray := prog_3_method_9_code
def yX1_sort : MethodName := ⟨RX1, "sort", "(LQuestionLadder$Bank;)V"⟩
abbrev cX1_clear : ByteArray := prog_3_method_10_code
def yX1_clear : MethodName := ⟨RX1, "clear", "()V"⟩
abbrev cX1_sortOne : ByteArray := prog_3_method_11_code
def yX1_sortOne : MethodName := ⟨RX1, "sortOne", "([II)V"⟩
abbrev cX1_keepsRules : ByteArray := prog_3_method_12_code
def yX1_keepsRules : MethodName := ⟨RX1, "keepsRules", "(ILQuestionLadder$Rules;)Z"⟩
abbrev cX1_keepsCompany : ByteArray := prog_3_method_13_code
def yX1_keepsCompany : MethodName := ⟨RX1, "keepsCompany", "(I)Z"⟩
abbrev cX1_restOfBegunTexts : ByteArray := prog_3_method_14_code
def yX1_restOfBegunTexts : MethodName := ⟨RX1, "restOfBegunTexts", "(I)I"⟩
def RX2 : String := "QuestionLadder$Rules"
def TX2 : u_T := fun k => match k with
  | 0 => ("QuestionLadder$Rules", "most", "I", false)
  | 1 => ("QuestionLadder$Rules", "sureOf", "I", false)
  | 2 => ("QuestionLadder$Rules", "sureIn", "I", false)
  | 3 => ("QuestionLadder$Rules", "lows", "[I", true)
  | 4 => ("QuestionLadder$Rules", "highs", "[I", true)
  | _ => ("QuestionLadder$Rules", "firstWeights", "[I", true)
def tyX2 : Nat → FieldType := fun k => match k with
  | 0 => .int
  | 1 => .int
  | 2 => .int
  | 3 => .array .int
  | 4 => .array .int
  | _ => .array .int
abbrev wsX20 : List Cond := u_ws RX2 TX2 6
theorem nmX2 : ∀ a, a < 6 → ∀ b, b < 6 → a ≠ b → (TX2 a).2.1 ≠ (TX2 b).2.1 := by decide +kernel
theorem tyX2_ok : ∀ k, k < 6 → parseFieldDescriptor (TX2 k).2.2.1 = some (tyX2 k) := by decide +kernel
abbrev cX2_init : ByteArray := prog_4_method_1_code
def yX2_init : MethodName := ⟨RX2, "<init>", "()V"⟩
abbrev cX2_areSure : ByteArray := prog_4_method_2_code
def yX2_areSure : MethodName := ⟨RX2, "areSure", "([I)Z"⟩
def RX3 : String := "QuestionLadder$Sitting"
def TX3 : u_T := fun k => match k with
  | 0 => ("QuestionLadder$Sitting", "underWay", "Z", false)
  | 1 => ("QuestionLadder$Sitting", "over", "I", false)
  | 2 => ("QuestionLadder$Sitting", "total", "I", false)
  | 3 => ("QuestionLadder$Sitting", "askedSet", "I", false)
  | 4 => ("QuestionLadder$Sitting", "questions", "[I", true)
  | 5 => ("QuestionLadder$Sitting", "rights", "[Z", true)
  | _ => ("QuestionLadder$Sitting", "weightRows", "[[I", true)
def tyX3 : Nat → FieldType := fun k => match k with
  | 0 => .boolean
  | 1 => .int
  | 2 => .int
  | 3 => .int
  | 4 => .array .int
  | 5 => .array .boolean
  | _ => .array (.array .int)
abbrev wsX30 : List Cond := u_ws RX3 TX3 7
theorem nmX3 : ∀ a, a < 7 → ∀ b, b < 7 → a ≠ b → (TX3 a).2.1 ≠ (TX3 b).2.1 := by decide +kernel
theorem tyX3_ok : ∀ k, k < 7 → parseFieldDescriptor (TX3 k).2.2.1 = some (tyX3 k) := by decide +kernel
abbrev cX3_init : ByteArray := prog_5_method_1_code
def yX3_init : MethodName := ⟨RX3, "<init>", "()V"⟩
abbrev cX3_open : ByteArray := prog_5_method_2_code
def yX3_open : MethodName := ⟨RX3, "open", "(LQuestionLadder$Rules;)V"⟩
abbrev cX3_weights : ByteArray := prog_5_method_3_code
def yX3_weights : MethodName := ⟨RX3, "weights", "()[I"⟩
abbrev cX3_weightsBehind : ByteArray := prog_5_method_4_code
def yX3_weightsBehind : MethodName := ⟨RX3, "weightsBehind", "(I)[I"⟩
abbrev cX3_weigh : ByteArray := prog_5_method_5_code
def yX3_weigh : MethodName := ⟨RX3, "weigh", "(LQuestionLadder$Bank;IIZ)V"⟩
abbrev cX3_note : ByteArray := prog_5_method_6_code
def yX3_note : MethodName := ⟨RX3, "note", "(LQuestionLadder$Bank;IZ)V"⟩
abbrev cX3_takeLatest : ByteArray := prog_5_method_7_code
def yX3_takeLatest : MethodName := ⟨RX3, "takeLatest", "()I"⟩
def RX4 : String := "QuestionLadder"
def TX4 : u_T := fun k => match k with
  | 0 => ("QuestionLadder", "bank", "LQuestionLadder$Bank;", true)
  | 1 => ("QuestionLadder", "rules", "LQuestionLadder$Rules;", true)
  | 2 => ("QuestionLadder", "sets", "LQuestionLadder$FitSets;", true)
  | _ => ("QuestionLadder", "sitting", "LQuestionLadder$Sitting;", true)
def tyX4 : Nat → FieldType := fun k => match k with
  | 0 => .object "QuestionLadder$Bank"
  | 1 => .object "QuestionLadder$Rules"
  | 2 => .object "QuestionLadder$FitSets"
  | _ => .object "QuestionLadder$Sitting"
abbrev wsX40 : List Cond := u_ws RX4 TX4 4
theorem nmX4 : ∀ a, a < 4 → ∀ b, b < 4 → a ≠ b → (TX4 a).2.1 ≠ (TX4 b).2.1 := by decide +kernel
theorem tyX4_ok : ∀ k, k < 4 → parseFieldDescriptor (TX4 k).2.2.1 = some (tyX4 k) := by decide +kernel
abbrev cX4_init : ByteArray := prog_1_method_1_code
def yX4_init : MethodName := ⟨RX4, "<init>", "()V"⟩
abbrev cX4_question : ByteArray := prog_1_method_2_code
def yX4_question : MethodName := ⟨RX4, "question", "(IIIII)I"⟩
abbrev cX4_set : ByteArray := prog_1_method_3_code
def yX4_set : MethodName := ⟨RX4, "set", "(III)I"⟩
abbrev cX4_length : ByteArray := prog_1_method_4_code
def yX4_length : MethodName := ⟨RX4, "length", "(I)I"⟩
abbrev cX4_share : ByteArray := prog_1_method_5_code
def yX4_share : MethodName := ⟨RX4, "share", "(III)I"⟩
abbrev cX4_sure : ByteArray := prog_1_method_6_code
def yX4_sure : MethodName := ⟨RX4, "sure", "(II)I"⟩
abbrev cX4_weight : ByteArray := prog_1_method_7_code
def yX4_weight : MethodName := ⟨RX4, "weight", "(II)I"⟩
abbrev cX4_about : ByteArray := prog_1_method_8_code
def yX4_about : MethodName := ⟨RX4, "about", "(II)I"⟩
abbrev cX4_fit : ByteArray := prog_1_method_9_code
def yX4_fit : MethodName := ⟨RX4, "fit", "()I"⟩
abbrev cX4_begin : ByteArray := prog_1_method_10_code
def yX4_begin : MethodName := ⟨RX4, "begin", "()I"⟩
abbrev cX4_next : ByteArray := prog_1_method_11_code
def yX4_next : MethodName := ⟨RX4, "next", "()I"⟩
abbrev cX4_answer : ByteArray := prog_1_method_12_code
def yX4_answer : MethodName := ⟨RX4, "answer", "(IZ)I"⟩
abbrev cX4_back : ByteArray := prog_1_method_13_code
def yX4_back : MethodName := ⟨RX4, "back", "()I"⟩
abbrev cX4_end : ByteArray := prog_1_method_14_code
def yX4_end : MethodName := ⟨RX4, "end", "()I"⟩
abbrev cX4_quit : ByteArray := prog_1_method_15_code
def yX4_quit : MethodName := ⟨RX4, "quit", "()I"⟩
abbrev cX4_may : ByteArray := prog_1_method_16_code
def yX4_may : MethodName := ⟨RX4, "may", "(I)I"⟩
abbrev cX4_gain : ByteArray := prog_1_method_17_code
def yX4_gain : MethodName := ⟨RX4, "gain", "(II)I"⟩
abbrev cX4_done : ByteArray := prog_1_method_18_code
def yX4_done : MethodName := ⟨RX4, "done", "()I"⟩
abbrev cX4_now : ByteArray := prog_1_method_19_code
def yX4_now : MethodName := ⟨RX4, "now", "(I)I"⟩
abbrev cX4_asked : ByteArray := prog_1_method_20_code
def yX4_asked : MethodName := ⟨RX4, "asked", "(II)I"⟩
abbrev cX4_reach : ByteArray := prog_1_method_21_code
def yX4_reach : MethodName := ⟨RX4, "reach", "(I)I"⟩
abbrev cX4_count : ByteArray := prog_1_method_22_code
def yX4_count : MethodName := ⟨RX4, "count", "(I)I"⟩
abbrev cX4_askable : ByteArray := prog_1_method_23_code
def yX4_askable : MethodName := ⟨RX4, "askable", "()I"⟩
abbrev cX4_doneness : ByteArray := prog_1_method_24_code
def yX4_doneness : MethodName := ⟨RX4, "doneness", "()I"⟩
abbrev cX4_mostTelling : ByteArray := prog_1_method_25_code
def yX4_mostTelling : MethodName := ⟨RX4, "mostTelling", "(I)I"⟩
abbrev cX4_compareGains : ByteArray := prog_1_method_26_code
def yX4_compareGains : MethodName := ⟨RX4, "compareGains", "(II)I"⟩
abbrev cX4_canBeFound : ByteArray := prog_1_method_27_code
def yX4_canBeFound : MethodName := ⟨RX4, "canBeFound", "(LQuestionLadder;III)Z"⟩
abbrev cX4_isFoundBy : ByteArray := prog_1_method_28_code
def yX4_isFoundBy : MethodName := ⟨RX4, "isFoundBy", "(LQuestionLadder;IIII)Z"⟩
abbrev cX4_isWithin : ByteArray := prog_1_method_29_code
def yX4_isWithin : MethodName := ⟨RX4, "isWithin", "(III)Z"⟩
abbrev cX4_isStep : ByteArray := prog_1_method_30_code
def yX4_isStep : MethodName := ⟨RX4, "isStep", "(I)Z"⟩
abbrev cX4_asNumber : ByteArray := prog_1_method_31_code
def yX4_asNumber : MethodName := ⟨RX4, "asNumber", "(Z)I"⟩
abbrev cX4_isIn : ByteArray := prog_1_method_32_code
def yX4_isIn : MethodName := ⟨RX4, "isIn", "(II)Z"⟩
abbrev cX4_sumOf : ByteArray := prog_1_method_33_code
def yX4_sumOf : MethodName := ⟨RX4, "sumOf", "([I)I"⟩
abbrev cX4_likeliestStep : ByteArray := prog_1_method_34_code
def yX4_likeliestStep : MethodName := ⟨RX4, "likeliestStep", "([I)I"⟩
abbrev cX4_factor : ByteArray := prog_1_method_35_code
def yX4_factor : MethodName := ⟨RX4, "factor", "([IIZ)I"⟩
abbrev cX4_sumBehind : ByteArray := prog_1_method_36_code
def yX4_sumBehind : MethodName := ⟨RX4, "sumBehind", "([I[IZ)J"⟩
abbrev cX4_squaresBehind : ByteArray := prog_1_method_37_code
def yX4_squaresBehind : MethodName := ⟨RX4, "squaresBehind", "([I[IZ)J"⟩
abbrev cX4_gainTop : ByteArray := prog_1_method_38_code
def yX4_gainTop : MethodName := ⟨RX4, "gainTop", "([I[I)J"⟩
abbrev cX4_gainBottom : ByteArray := prog_1_method_39_code
def yX4_gainBottom : MethodName := ⟨RX4, "gainBottom", "([I[I)J"⟩
abbrev cX4_compareFractions : ByteArray := prog_1_method_40_code
def yX4_compareFractions : MethodName := ⟨RX4, "compareFractions", "(JJJJ)I"⟩
def RX5 : String := "QuestionLadderModel"
def TX5 : u_T := fun k => match k with
  | 0 => ("QuestionLadderModel", "questions", "I", false)
  | 1 => ("QuestionLadderModel", "kind", "[I", true)
  | 2 => ("QuestionLadderModel", "group", "[I", true)
  | 3 => ("QuestionLadderModel", "content", "[I", true)
  | 4 => ("QuestionLadderModel", "limit", "[I", true)
  | 5 => ("QuestionLadderModel", "shown", "[I", true)
  | 6 => ("QuestionLadderModel", "chance", "[I", true)
  | 7 => ("QuestionLadderModel", "length", "I", false)
  | 8 => ("QuestionLadderModel", "low", "[I", true)
  | 9 => ("QuestionLadderModel", "high", "[I", true)
  | 10 => ("QuestionLadderModel", "sureOf", "I", false)
  | 11 => ("QuestionLadderModel", "sureBy", "I", false)
  | 12 => ("QuestionLadderModel", "first", "[I", true)
  | 13 => ("QuestionLadderModel", "isOn", "Z", false)
  | 14 => ("QuestionLadderModel", "over", "I", false)
  | 15 => ("QuestionLadderModel", "many", "I", false)
  | 16 => ("QuestionLadderModel", "order", "[I", true)
  | 17 => ("QuestionLadderModel", "wasRight", "[Z", true)
  | 18 => ("QuestionLadderModel", "weights", "[I", true)
  | 19 => ("QuestionLadderModel", "fits", "[Z", true)
  | 20 => ("QuestionLadderModel", "canFit", "[Z", true)
  | 21 => ("QuestionLadderModel", "above", "J", false)
  | _ => ("QuestionLadderModel", "below", "J", false)
def tyX5 : Nat → FieldType := fun k => match k with
  | 0 => .int
  | 1 => .array .int
  | 2 => .array .int
  | 3 => .array .int
  | 4 => .array .int
  | 5 => .array .int
  | 6 => .array .int
  | 7 => .int
  | 8 => .array .int
  | 9 => .array .int
  | 10 => .int
  | 11 => .int
  | 12 => .array .int
  | 13 => .boolean
  | 14 => .int
  | 15 => .int
  | 16 => .array .int
  | 17 => .array .boolean
  | 18 => .array .int
  | 19 => .array .boolean
  | 20 => .array .boolean
  | 21 => .long
  | _ => .long
abbrev wsX50 : List Cond := u_ws RX5 TX5 23
theorem nmX5 : ∀ a, a < 23 → ∀ b, b < 23 → a ≠ b → (TX5 a).2.1 ≠ (TX5 b).2.1 := by decide +kernel
theorem tyX5_ok : ∀ k, k < 23 → parseFieldDescriptor (TX5 k).2.2.1 = some (tyX5 k) := by decide +kernel
abbrev cX5_init : ByteArray := prog_7_method_1_code
def yX5_init : MethodName := ⟨RX5, "<init>", "()V"⟩
abbrev cX5_in : ByteArray := prog_7_method_3_code
def yX5_in : MethodName := ⟨RX5, "in", "(III)Z"⟩
abbrev cX5_isQuestion : ByteArray := prog_7_method_4_code
def yX5_isQuestion : MethodName := ⟨RX5, "isQuestion", "(I)Z"⟩
abbrev cX5_isField : ByteArray := prog_7_method_5_code
def yX5_isField : MethodName := ⟨RX5, "isField", "(II)Z"⟩
abbrev cX5_question : ByteArray := prog_7_method_6_code
def yX5_question : MethodName := ⟨RX5, "question", "(IIIII)I"⟩
abbrev cX5_set : ByteArray := prog_7_method_7_code
def yX5_set : MethodName := ⟨RX5, "set", "(III)I"⟩
abbrev cX5_length : ByteArray := prog_7_method_8_code
def yX5_length : MethodName := ⟨RX5, "length", "(I)I"⟩
abbrev cX5_share : ByteArray := prog_7_method_9_code
def yX5_share : MethodName := ⟨RX5, "share", "(III)I"⟩
abbrev cX5_sure : ByteArray := prog_7_method_10_code
def yX5_sure : MethodName := ⟨RX5, "sure", "(II)I"⟩
abbrev cX5_weight : ByteArray := prog_7_method_11_code
def yX5_weight : MethodName := ⟨RX5, "weight", "(II)I"⟩
abbrev cX5_about : ByteArray := prog_7_method_12_code
def yX5_about : MethodName := ⟨RX5, "about", "(II)I"⟩
abbrev cX5_has : ByteArray := prog_7_method_13_code
def yX5_has : MethodName := ⟨RX5, "has", "(II)Z"⟩
abbrev cX5_isGroupWell : ByteArray := prog_7_method_14_code
def yX5_isGroupWell : MethodName := ⟨RX5, "isGroupWell", "(II)Z"⟩
abbrev cX5_isFit : ByteArray := prog_7_method_15_code
def yX5_isFit : MethodName := ⟨RX5, "isFit", "(I)Z"⟩
abbrev cX5_findFits : ByteArray := prog_7_method_16_code
def yX5_findFits : MethodName := ⟨RX5, "findFits", "()I"⟩
abbrev cX5_fit : ByteArray := prog_7_method_17_code
def yX5_fit : MethodName := ⟨RX5, "fit", "()I"⟩
abbrev cX5_askedSet : ByteArray := prog_7_method_18_code
def yX5_askedSet : MethodName := ⟨RX5, "askedSet", "()I"⟩
abbrev cX5_dueText : ByteArray := prog_7_method_19_code
def yX5_dueText : MethodName := ⟨RX5, "dueText", "(I)I"⟩
abbrev cX5_mayBe : ByteArray := prog_7_method_20_code
def yX5_mayBe : MethodName := ⟨RX5, "mayBe", "(II)Z"⟩
abbrev cX5_mayMany : ByteArray := prog_7_method_21_code
def yX5_mayMany : MethodName := ⟨RX5, "mayMany", "()I"⟩
abbrev cX5_begin : ByteArray := prog_7_method_22_code
def yX5_begin : MethodName := ⟨RX5, "begin", "()I"⟩
abbrev cX5_sum : ByteArray := prog_7_method_23_code
def yX5_sum : MethodName := ⟨RX5, "sum", "(I)J"⟩
abbrev cX5_squares : ByteArray := prog_7_method_24_code
def yX5_squares : MethodName := ⟨RX5, "squares", "(I)J"⟩
abbrev cX5_isSure : ByteArray := prog_7_method_25_code
def yX5_isSure : MethodName := ⟨RX5, "isSure", "(I)Z"⟩
abbrev cX5_weighs : ByteArray := prog_7_method_26_code
def yX5_weighs : MethodName := ⟨RX5, "weighs", "(IIIZ)V"⟩
abbrev cX5_gainOf : ByteArray := prog_7_method_27_code
def yX5_gainOf : MethodName := ⟨RX5, "gainOf", "(I)V"⟩
abbrev cX5_beside : ByteArray := prog_7_method_28_code
def yX5_beside : MethodName := ⟨RX5, "beside", "(JJJJ)I"⟩
abbrev cX5_besideGain : ByteArray := prog_7_method_29_code
def yX5_besideGain : MethodName := ⟨RX5, "besideGain", "(II)I"⟩
abbrev cX5_doneNow : ByteArray := prog_7_method_30_code
def yX5_doneNow : MethodName := ⟨RX5, "doneNow", "()I"⟩
abbrev cX5_next : ByteArray := prog_7_method_31_code
def yX5_next : MethodName := ⟨RX5, "next", "()I"⟩
abbrev cX5_answer : ByteArray := prog_7_method_32_code
def yX5_answer : MethodName := ⟨RX5, "answer", "(IZ)I"⟩
abbrev cX5_back : ByteArray := prog_7_method_33_code
def yX5_back : MethodName := ⟨RX5, "back", "()I"⟩
abbrev cX5_end : ByteArray := prog_7_method_34_code
def yX5_end : MethodName := ⟨RX5, "end", "()I"⟩
abbrev cX5_quit : ByteArray := prog_7_method_35_code
def yX5_quit : MethodName := ⟨RX5, "quit", "()I"⟩
abbrev cX5_may : ByteArray := prog_7_method_36_code
def yX5_may : MethodName := ⟨RX5, "may", "(I)I"⟩
abbrev cX5_gain : ByteArray := prog_7_method_37_code
def yX5_gain : MethodName := ⟨RX5, "gain", "(II)I"⟩
abbrev cX5_done : ByteArray := prog_7_method_38_code
def yX5_done : MethodName := ⟨RX5, "done", "()I"⟩
abbrev cX5_now : ByteArray := prog_7_method_39_code
def yX5_now : MethodName := ⟨RX5, "now", "(I)I"⟩
abbrev cX5_asked : ByteArray := prog_7_method_40_code
def yX5_asked : MethodName := ⟨RX5, "asked", "(II)I"⟩
abbrev cX5_reachesOne : ByteArray := prog_7_method_41_code
def yX5_reachesOne : MethodName := ⟨RX5, "reachesOne", "(II)Z"⟩
abbrev cX5_reachesTwo : ByteArray := prog_7_method_42_code
def yX5_reachesTwo : MethodName := ⟨RX5, "reachesTwo", "(II)Z"⟩
abbrev cX5_reachesThree : ByteArray := prog_7_method_43_code
def yX5_reachesThree : MethodName := ⟨RX5, "reachesThree", "(II)Z"⟩
abbrev cX5_reach : ByteArray := prog_7_method_44_code
def yX5_reach : MethodName := ⟨RX5, "reach", "(I)I"⟩
abbrev cX5_count : ByteArray := prog_7_method_45_code
def yX5_count : MethodName := ⟨RX5, "count", "(I)I"⟩
def RJ6 : String := "java/lang/Integer"
def TJ6 : u_T := fun k => match k with
  | _ => ("", "", "", false)
def tyJ6 : Nat → FieldType := fun k => match k with
  | _ => .int
abbrev wsJ60 : List Cond := u_ws RJ6 TJ6 0
theorem nmJ6 : ∀ a, a < 0 → ∀ b, b < 0 → a ≠ b → (TJ6 a).2.1 ≠ (TJ6 b).2.1 := by decide +kernel
theorem tyJ6_ok : ∀ k, k < 0 → parseFieldDescriptor (TJ6 k).2.2.1 = some (tyJ6 k) := by decide +kernel
abbrev cJ6_bitCount_0f7a4 : ByteArray := prog_8_method_49_code
def yJ6_bitCount_0f7a4 : MethodName := ⟨RJ6, "bitCount", "(I)I"⟩
def RJ13 : String := "java/lang/Long"
def TJ13 : u_T := fun k => match k with
  | _ => ("", "", "", false)
def tyJ13 : Nat → FieldType := fun k => match k with
  | _ => .int
abbrev wsJ130 : List Cond := u_ws RJ13 TJ13 0
theorem nmJ13 : ∀ a, a < 0 → ∀ b, b < 0 → a ≠ b → (TJ13 a).2.1 ≠ (TJ13 b).2.1 := by decide +kernel
theorem tyJ13_ok : ∀ k, k < 0 → parseFieldDescriptor (TJ13 k).2.2.1 = some (tyJ13 k) := by decide +kernel
abbrev cJ13_compare_74951 : ByteArray := prog_9_method_42_code
def yJ13_compare_74951 : MethodName := ⟨RJ13, "compare", "(JJ)I"⟩
def RJ9 : String := "java/lang/Math"
def TJ9 : u_T := fun k => match k with
  | _ => ("", "", "", false)
def tyJ9 : Nat → FieldType := fun k => match k with
  | _ => .int
abbrev wsJ90 : List Cond := u_ws RJ9 TJ9 0
theorem nmJ9 : ∀ a, a < 0 → ∀ b, b < 0 → a ≠ b → (TJ9 a).2.1 ≠ (TJ9 b).2.1 := by decide +kernel
theorem tyJ9_ok : ∀ k, k < 0 → parseFieldDescriptor (TJ9 k).2.2.1 = some (tyJ9 k) := by decide +kernel
abbrev cJ9_min_7cf53 : ByteArray := prog_10_method_69_code
def yJ9_min_7cf53 : MethodName := ⟨RJ9, "min", "(II)I"⟩
def RJ10 : String := "java/lang/System"
def TJ10 : u_T := fun k => match k with
  | _ => ("", "", "", false)
def tyJ10 : Nat → FieldType := fun k => match k with
  | _ => .int
abbrev wsJ100 : List Cond := u_ws RJ10 TJ10 0
theorem nmJ10 : ∀ a, a < 0 → ∀ b, b < 0 → a ≠ b → (TJ10 a).2.1 ≠ (TJ10 b).2.1 := by decide +kernel
theorem tyJ10_ok : ∀ k, k < 0 → parseFieldDescriptor (TJ10 k).2.2.1 = some (tyJ10 k) := by decide +kernel
def RL : String := "QuestionLadderLaw"
abbrev cL_law : ByteArray := code
def yL_law : MethodName := ⟨RL, "law", "([I)Z"⟩
def wsL_law_r1 : List Cond := [Cond.classLink RL 7 RX4, Cond.instantiable RX4 4, Cond.initialized RX4, Cond.classLink RL 10 RX5, Cond.instantiable RX5 23, Cond.initialized RX5, Cond.methodLink RL 9 yX4_init, Cond.instanceMethod yX4_init, Cond.code yX4_init cX4_init 1 none, Cond.methodLink RX4 3 objectInit, Cond.instanceMethod objectInit, Cond.code objectInit ⟨#[0xb1]⟩ 1 none, Cond.classLink RX4 9 RX0, Cond.instantiable RX0 2, Cond.initialized RX0, Cond.fieldLink RX4 12 "QuestionLadder" "bank" "LQuestionLadder$Bank;", Cond.classLink RX4 16 RX2, Cond.instantiable RX2 6, Cond.initialized RX2, Cond.fieldLink RX4 19 "QuestionLadder" "rules" "LQuestionLadder$Rules;", Cond.classLink RX4 23 RX1, Cond.instantiable RX1 8, Cond.initialized RX1, Cond.fieldLink RX4 26 "QuestionLadder" "sets" "LQuestionLadder$FitSets;"]
def wsL_law_r2 : List Cond := [Cond.classLink RX4 30 RX3, Cond.instantiable RX3 7, Cond.initialized RX3, Cond.fieldLink RX4 33 "QuestionLadder" "sitting" "LQuestionLadder$Sitting;", Cond.instanceMethod yX0_init, Cond.code yX0_init cX0_init 1 none, Cond.methodLink RX0 3 objectInit, Cond.classLink RX0 9 "[[I", Cond.arrayClass .int, Cond.fieldLink RX0 11 "QuestionLadder$Bank" "facts" "[[I", Cond.methodLink RX4 18 yX2_init, Cond.instanceMethod yX2_init, Cond.code yX2_init cX2_init 2 none, Cond.methodLink RX2 3 objectInit, Cond.fieldLink RX2 9 "QuestionLadder$Rules" "most" "I", Cond.fieldLink RX2 15 "QuestionLadder$Rules" "sureOf" "I", Cond.fieldLink RX2 18 "QuestionLadder$Rules" "sureIn" "I", Cond.fieldLink RX2 21 "QuestionLadder$Rules" "lows" "[I", Cond.fieldLink RX2 25 "QuestionLadder$Rules" "highs" "[I", Cond.fieldLink RX2 28 "QuestionLadder$Rules" "firstWeights" "[I", Cond.instanceMethod yX1_init, Cond.code yX1_init cX1_init 1 none, Cond.methodLink RX1 3 objectInit, Cond.fieldLink RX1 9 "QuestionLadder$FitSets" "texts" "[I"]
def wsL_law_r3 : List Cond := [Cond.fieldLink RX1 15 "QuestionLadder$FitSets" "foes" "[I", Cond.fieldLink RX1 18 "QuestionLadder$FitSets" "contents" "[I", Cond.arrayClass .boolean, Cond.fieldLink RX1 21 "QuestionLadder$FitSets" "fits" "[Z", Cond.fieldLink RX1 25 "QuestionLadder$FitSets" "partOfFit" "[Z", Cond.instanceMethod yX3_init, Cond.code yX3_init cX3_init 1 none, Cond.methodLink RX3 3 objectInit, Cond.fieldLink RX3 9 "QuestionLadder$Sitting" "questions" "[I", Cond.fieldLink RX3 15 "QuestionLadder$Sitting" "rights" "[Z", Cond.classLink RX3 19 "[[I", Cond.fieldLink RX3 21 "QuestionLadder$Sitting" "weightRows" "[[I", Cond.methodLink RL 12 yX5_init, Cond.instanceMethod yX5_init, Cond.code yX5_init cX5_init 1 none, Cond.methodLink RX5 1 objectInit, Cond.fieldLink RX5 7 "QuestionLadderModel" "kind" "[I", Cond.fieldLink RX5 13 "QuestionLadderModel" "group" "[I", Cond.fieldLink RX5 16 "QuestionLadderModel" "content" "[I", Cond.fieldLink RX5 19 "QuestionLadderModel" "limit" "[I", Cond.fieldLink RX5 22 "QuestionLadderModel" "shown" "[I", Cond.fieldLink RX5 25 "QuestionLadderModel" "chance" "[I", Cond.fieldLink RX5 28 "QuestionLadderModel" "length" "I", Cond.fieldLink RX5 32 "QuestionLadderModel" "low" "[I"]
def wsL_law_r4 : List Cond := [Cond.fieldLink RX5 35 "QuestionLadderModel" "high" "[I", Cond.fieldLink RX5 38 "QuestionLadderModel" "sureOf" "I", Cond.fieldLink RX5 41 "QuestionLadderModel" "sureBy" "I", Cond.fieldLink RX5 44 "QuestionLadderModel" "first" "[I", Cond.fieldLink RX5 47 "QuestionLadderModel" "order" "[I", Cond.fieldLink RX5 50 "QuestionLadderModel" "wasRight" "[Z", Cond.fieldLink RX5 54 "QuestionLadderModel" "weights" "[I", Cond.fieldLink RX5 57 "QuestionLadderModel" "fits" "[Z", Cond.fieldLink RX5 60 "QuestionLadderModel" "canFit" "[Z", Cond.fieldLink RX5 63 "QuestionLadderModel" "questions" "I", Cond.methodLink RL 13 yX4_question, Cond.instanceMethod yX4_question, Cond.selects RX4 yX4_question yX4_question, Cond.code yX4_question cX4_question 7 (some .int), Cond.fieldLink RX4 45 "QuestionLadder$Sitting" "underWay" "Z", Cond.fieldLink RX4 49 "QuestionLadder$Bank" "size" "I", Cond.methodLink RX4 37 yX0_canBe, Cond.static yX0_canBe, Cond.code yX0_canBe cX0_canBe 2 (some .boolean), Cond.static yX4_isWithin, Cond.code yX4_isWithin cX4_isWithin 3 (some .boolean), Cond.methodLink RX4 41 yX0_areChances, Cond.static yX0_areChances, Cond.code yX0_areChances cX0_areChances 3 (some .boolean)]
def wsL_law_r5 : List Cond := [Cond.methodLink RX4 53 yX0_add, Cond.instanceMethod yX0_add, Cond.selects RX0 yX0_add yX0_add, Cond.code yX0_add cX0_add 5 (some .int), Cond.fieldLink RX0 20 "QuestionLadder$Bank" "size" "I", Cond.methodLink RX0 24 yX0_put, Cond.instanceMethod yX0_put, Cond.selects RX0 yX0_put yX0_put, Cond.code yX0_put cX0_put 4 none, Cond.methodLink RX0 28 yX0_has, Cond.instanceMethod yX0_has, Cond.selects RX0 yX0_has yX0_has, Cond.code yX0_has cX0_has 2 (some .boolean), Cond.methodLink RX4 57 yX0_put, Cond.methodLink RL 17 yX5_question, Cond.instanceMethod yX5_question, Cond.selects RX5 yX5_question yX5_question, Cond.code yX5_question cX5_question 9 (some .int), Cond.constant RX5 74 (111111), Cond.constant RX5 75 (444444), Cond.fieldLink RX5 76 "QuestionLadderModel" "isOn" "Z", Cond.methodLink RX5 70 yX5_isField, Cond.static yX5_isField, Cond.code yX5_isField cX5_isField 2 (some .boolean)]
def wsL_law_r6 : List Cond := [Cond.methodLink RX5 66 yX5_in, Cond.static yX5_in, Cond.code yX5_in cX5_in 3 (some .boolean), Cond.methodLink RL 18 yX4_set, Cond.instanceMethod yX4_set, Cond.selects RX4 yX4_set yX4_set, Cond.code yX4_set cX4_set 5 (some .int), Cond.methodLink RX4 61 yX0_has, Cond.methodLink RX4 64 yX0_fact, Cond.instanceMethod yX0_fact, Cond.selects RX0 yX0_fact yX0_fact, Cond.code yX0_fact cX0_fact 3 (some .int), Cond.methodLink RL 22 yX5_set, Cond.instanceMethod yX5_set, Cond.selects RX5 yX5_set yX5_set, Cond.code yX5_set cX5_set 5 (some .int), Cond.methodLink RX5 80 yX5_isQuestion, Cond.instanceMethod yX5_isQuestion, Cond.selects RX5 yX5_isQuestion yX5_isQuestion, Cond.code yX5_isQuestion cX5_isQuestion 2 (some .boolean), Cond.methodLink RL 23 yX4_length, Cond.instanceMethod yX4_length, Cond.selects RX4 yX4_length yX4_length, Cond.code yX4_length cX4_length 3 (some .int)]
def wsL_law_r7 : List Cond := [Cond.fieldLink RX4 72 "QuestionLadder$Rules" "most" "I", Cond.methodLink RX4 68 yX4_isWithin, Cond.methodLink RL 27 yX5_length, Cond.instanceMethod yX5_length, Cond.selects RX5 yX5_length yX5_length, Cond.code yX5_length cX5_length 3 (some .int), Cond.methodLink RL 28 yX4_share, Cond.instanceMethod yX4_share, Cond.selects RX4 yX4_share yX4_share, Cond.code yX4_share cX4_share 5 (some .int), Cond.fieldLink RX4 75 "QuestionLadder$Rules" "lows" "[I", Cond.fieldLink RX4 79 "QuestionLadder$Rules" "highs" "[I", Cond.methodLink RL 31 yX5_share, Cond.instanceMethod yX5_share, Cond.selects RX5 yX5_share yX5_share, Cond.code yX5_share cX5_share 5 (some .int), Cond.methodLink RL 32 yX4_sure, Cond.instanceMethod yX4_sure, Cond.selects RX4 yX4_sure yX4_sure, Cond.code yX4_sure cX4_sure 4 (some .int), Cond.fieldLink RX4 82 "QuestionLadder$Rules" "sureOf" "I", Cond.fieldLink RX4 85 "QuestionLadder$Rules" "sureIn" "I", Cond.methodLink RL 36 yX5_sure, Cond.instanceMethod yX5_sure]
def wsL_law_r8 : List Cond := [Cond.selects RX5 yX5_sure yX5_sure, Cond.code yX5_sure cX5_sure 4 (some .int), Cond.methodLink RL 37 yX4_weight, Cond.instanceMethod yX4_weight, Cond.selects RX4 yX4_weight yX4_weight, Cond.code yX4_weight cX4_weight 4 (some .int), Cond.fieldLink RX4 91 "QuestionLadder$Rules" "firstWeights" "[I", Cond.methodLink RX4 88 yX4_isStep, Cond.static yX4_isStep, Cond.code yX4_isStep cX4_isStep 1 (some .boolean), Cond.methodLink RL 40 yX5_weight, Cond.instanceMethod yX5_weight, Cond.selects RX5 yX5_weight yX5_weight, Cond.code yX5_weight cX5_weight 4 (some .int), Cond.methodLink RL 41 yX4_about, Cond.instanceMethod yX4_about, Cond.selects RX4 yX4_about yX4_about, Cond.code yX4_about cX4_about 3 (some .int), Cond.methodLink RL 44 yX5_about, Cond.instanceMethod yX5_about, Cond.selects RX5 yX5_about yX5_about, Cond.code yX5_about cX5_about 3 (some .int), Cond.methodLink RL 45 yX4_fit, Cond.instanceMethod yX4_fit]
def wsL_law_r9 : List Cond := [Cond.selects RX4 yX4_fit yX4_fit, Cond.code yX4_fit cX4_fit 1 (some .int), Cond.methodLink RX4 94 yX1_findAll, Cond.instanceMethod yX1_findAll, Cond.selects RX1 yX1_findAll yX1_findAll, Cond.code yX1_findAll cX1_findAll 5 (some .int), Cond.methodLink RX1 28 yX1_sort, Cond.instanceMethod yX1_sort, Cond.selects RX1 yX1_sort yX1_sort, Cond.code yX1_sort cX1_sort 3 none, Cond.fieldLink RX1 79 "QuestionLadder$Bank" "size" "I", Cond.methodLink RX1 66 Lib.Math.min.name, Cond.static Lib.Math.min.name, Cond.initialized "java/lang/Math", Cond.code Lib.Math.min.name Lib.Math.min.code 2 (some .int), Cond.fieldLink RX1 59 "QuestionLadder$FitSets" "size" "I", Cond.methodLink RX1 76 yX1_clear, Cond.instanceMethod yX1_clear, Cond.selects RX1 yX1_clear yX1_clear, Cond.code yX1_clear cX1_clear 2 none, Cond.fieldLink RX1 90 "QuestionLadder$FitSets" "anchors" "I", Cond.fieldLink RX1 93 "QuestionLadder$FitSets" "worn" "I", Cond.methodLink RX1 82 yX0_row, Cond.instanceMethod yX0_row]
def wsL_law_r10 : List Cond := [Cond.selects RX0 yX0_row yX0_row, Cond.code yX0_row cX0_row 2 (some (.array .int)), Cond.methodLink RX1 86 yX1_sortOne, Cond.instanceMethod yX1_sortOne, Cond.selects RX1 yX1_sortOne yX1_sortOne, Cond.code yX1_sortOne cX1_sortOne 5 none, Cond.methodLink RX1 32 yX1_total, Cond.instanceMethod yX1_total, Cond.selects RX1 yX1_total yX1_total, Cond.code yX1_total cX1_total 1 (some .int), Cond.methodLink RX1 36 yX1_keepsRules, Cond.instanceMethod yX1_keepsRules, Cond.selects RX1 yX1_keepsRules yX1_keepsRules, Cond.code yX1_keepsRules cX1_keepsRules 5 (some .boolean), Cond.fieldLink RX1 101 "QuestionLadder$Rules" "most" "I", Cond.fieldLink RX1 106 "QuestionLadder$Rules" "lows" "[I", Cond.fieldLink RX1 109 "QuestionLadder$Rules" "highs" "[I", Cond.methodLink RX1 96 yJ6_bitCount_0f7a4, Cond.static yJ6_bitCount_0f7a4, Cond.initialized RJ6, Cond.code yJ6_bitCount_0f7a4 cJ6_bitCount_0f7a4 1 (some .int), Cond.constant RJ6 265 (1431655765), Cond.constant RJ6 266 (858993459), Cond.constant RJ6 267 (252645135)]
def wsL_law_r11 : List Cond := [Cond.methodLink RX1 40 yX1_keepsCompany, Cond.instanceMethod yX1_keepsCompany, Cond.selects RX1 yX1_keepsCompany yX1_keepsCompany, Cond.code yX1_keepsCompany cX1_keepsCompany 4 (some .boolean), Cond.static yX4_asNumber, Cond.code yX4_asNumber cX4_asNumber 1 (some .int), Cond.methodLink RL 49 yX5_fit, Cond.instanceMethod yX5_fit, Cond.selects RX5 yX5_fit yX5_fit, Cond.code yX5_fit cX5_fit 1 (some .int), Cond.methodLink RX5 93 yX5_findFits, Cond.instanceMethod yX5_findFits, Cond.selects RX5 yX5_findFits yX5_findFits, Cond.code yX5_findFits cX5_findFits 4 (some .int), Cond.methodLink RX5 90 yX5_isFit, Cond.instanceMethod yX5_isFit, Cond.selects RX5 yX5_isFit yX5_isFit, Cond.code yX5_isFit cX5_isFit 7 (some .boolean), Cond.methodLink RX5 84 yX5_has, Cond.static yX5_has, Cond.code yX5_has cX5_has 2 (some .boolean), Cond.methodLink RX5 87 yX5_isGroupWell, Cond.instanceMethod yX5_isGroupWell, Cond.selects RX5 yX5_isGroupWell yX5_isGroupWell]
def wsL_law_r12 : List Cond := [Cond.code yX5_isGroupWell cX5_isGroupWell 7 (some .boolean), Cond.methodLink RL 50 yX4_begin, Cond.instanceMethod yX4_begin, Cond.selects RX4 yX4_begin yX4_begin, Cond.code yX4_begin cX4_begin 1 (some .int), Cond.methodLink RX4 98 yX1_spreadToParts, Cond.instanceMethod yX1_spreadToParts, Cond.selects RX1 yX1_spreadToParts yX1_spreadToParts, Cond.code yX1_spreadToParts cX1_spreadToParts 2 none, Cond.methodLink RX1 48 yX1_isPartOfBigger, Cond.instanceMethod yX1_isPartOfBigger, Cond.selects RX1 yX1_isPartOfBigger yX1_isPartOfBigger, Cond.code yX1_isPartOfBigger cX1_isPartOfBigger 3 (some .boolean), Cond.static yX4_isIn, Cond.code yX4_isIn cX4_isIn 2 (some .boolean), Cond.methodLink RX1 63 yX1_isPartOfFit, Cond.instanceMethod yX1_isPartOfFit, Cond.selects RX1 yX1_isPartOfFit yX1_isPartOfFit, Cond.code yX1_isPartOfFit cX1_isPartOfFit 2 (some .boolean), Cond.methodLink RX4 101 yX3_open, Cond.instanceMethod yX3_open, Cond.selects RX3 yX3_open yX3_open, Cond.code yX3_open cX3_open 2 none, Cond.fieldLink RX3 24 "QuestionLadder$Sitting" "underWay" "Z"]
def wsL_law_r13 : List Cond := [Cond.fieldLink RX3 28 "QuestionLadder$Sitting" "total" "I", Cond.fieldLink RX3 32 "QuestionLadder$Sitting" "askedSet" "I", Cond.fieldLink RX3 35 "QuestionLadder$Rules" "firstWeights" "[I", Cond.methodLink RX3 40 arraycopyName, Cond.native arraycopyName, Cond.static arraycopyName, Cond.initialized "java/lang/System", Cond.methodLink RX4 105 yX4_askable, Cond.instanceMethod yX4_askable, Cond.selects RX4 yX4_askable yX4_askable, Cond.code yX4_askable cX4_askable 1 (some .int), Cond.fieldLink RX4 162 "QuestionLadder$Sitting" "askedSet" "I", Cond.methodLink RX4 172 yX1_askableBehind, Cond.instanceMethod yX1_askableBehind, Cond.selects RX1 yX1_askableBehind yX1_askableBehind, Cond.code yX1_askableBehind cX1_askableBehind 7 (some .int), Cond.methodLink RX1 55 yX1_restOfBegunTexts, Cond.instanceMethod yX1_restOfBegunTexts, Cond.selects RX1 yX1_restOfBegunTexts yX1_restOfBegunTexts, Cond.code yX1_restOfBegunTexts cX1_restOfBegunTexts 4 (some .int), Cond.methodLink RX4 109 yJ6_bitCount_0f7a4, Cond.methodLink RL 53 yX5_begin, Cond.instanceMethod yX5_begin, Cond.selects RX5 yX5_begin yX5_begin]
def wsL_law_r14 : List Cond := [Cond.code yX5_begin cX5_begin 2 (some .int), Cond.fieldLink RX5 97 "QuestionLadderModel" "many" "I", Cond.methodLink RX5 110 yX5_mayMany, Cond.instanceMethod yX5_mayMany, Cond.selects RX5 yX5_mayMany yX5_mayMany, Cond.code yX5_mayMany cX5_mayMany 4 (some .int), Cond.methodLink RX5 104 yX5_askedSet, Cond.instanceMethod yX5_askedSet, Cond.selects RX5 yX5_askedSet yX5_askedSet, Cond.code yX5_askedSet cX5_askedSet 3 (some .int), Cond.methodLink RX5 107 yX5_mayBe, Cond.instanceMethod yX5_mayBe, Cond.selects RX5 yX5_mayBe yX5_mayBe, Cond.code yX5_mayBe cX5_mayBe 4 (some .boolean), Cond.methodLink RX5 100 yX5_dueText, Cond.instanceMethod yX5_dueText, Cond.selects RX5 yX5_dueText yX5_dueText, Cond.code yX5_dueText cX5_dueText 4 (some .int), Cond.methodLink RL 54 yX4_next, Cond.instanceMethod yX4_next, Cond.selects RX4 yX4_next yX4_next, Cond.code yX4_next cX4_next 1 (some .int), Cond.methodLink RX4 114 yX4_doneness, Cond.instanceMethod yX4_doneness]
def wsL_law_r15 : List Cond := [Cond.selects RX4 yX4_doneness yX4_doneness, Cond.code yX4_doneness cX4_doneness 1 (some .int), Cond.methodLink RX4 175 yX1_isFit, Cond.instanceMethod yX1_isFit, Cond.selects RX1 yX1_isFit yX1_isFit, Cond.code yX1_isFit cX1_isFit 2 (some .boolean), Cond.methodLink RX4 140 yX3_weights, Cond.instanceMethod yX3_weights, Cond.selects RX3 yX3_weights yX3_weights, Cond.code yX3_weights cX3_weights 1 (some (.array .int)), Cond.methodLink RX3 46 yX3_weightsBehind, Cond.instanceMethod yX3_weightsBehind, Cond.selects RX3 yX3_weightsBehind yX3_weightsBehind, Cond.code yX3_weightsBehind cX3_weightsBehind 2 (some (.array .int)), Cond.methodLink RX4 178 yX2_areSure, Cond.instanceMethod yX2_areSure, Cond.selects RX2 yX2_areSure yX2_areSure, Cond.code yX2_areSure cX2_areSure 3 (some .boolean), Cond.static yX4_likeliestStep, Cond.code yX4_likeliestStep cX4_likeliestStep 3 (some .int), Cond.static yX4_sumOf, Cond.code yX4_sumOf cX4_sumOf 6 (some .int), Cond.methodLink RX4 117 yX4_mostTelling, Cond.instanceMethod yX4_mostTelling]
def wsL_law_r16 : List Cond := [Cond.selects RX4 yX4_mostTelling yX4_mostTelling, Cond.code yX4_mostTelling cX4_mostTelling 4 (some .int), Cond.methodLink RX4 120 yX4_isIn, Cond.methodLink RX4 152 yX4_compareGains, Cond.instanceMethod yX4_compareGains, Cond.selects RX4 yX4_compareGains yX4_compareGains, Cond.code yX4_compareGains cX4_compareGains 6 (some .int), Cond.methodLink RX4 182 yX0_row, Cond.methodLink RX4 186 yX4_gainTop, Cond.static yX4_gainTop, Cond.code yX4_gainTop cX4_gainTop 4 (some .long), Cond.constantLong RX4 216 (5), Cond.methodLink RX4 212 yX4_squaresBehind, Cond.static yX4_squaresBehind, Cond.code yX4_squaresBehind cX4_squaresBehind 8 (some .long), Cond.methodLink RX4 208 yX4_factor, Cond.static yX4_factor, Cond.code yX4_factor cX4_factor 4 (some .int), Cond.methodLink RX4 218 yX4_sumBehind, Cond.static yX4_sumBehind, Cond.code yX4_sumBehind cX4_sumBehind 6 (some .long), Cond.methodLink RX4 190 yX4_gainBottom, Cond.static yX4_gainBottom, Cond.code yX4_gainBottom cX4_gainBottom 4 (some .long)]
def wsL_law_r17 : List Cond := [Cond.methodLink RX4 193 yX4_compareFractions, Cond.static yX4_compareFractions, Cond.code yX4_compareFractions cX4_compareFractions 18 (some .int), Cond.methodLink RX4 221 yJ13_compare_74951, Cond.static yJ13_compare_74951, Cond.initialized RJ13, Cond.code yJ13_compare_74951 cJ13_compare_74951 4 (some .int), Cond.methodLink RL 57 yX5_next, Cond.instanceMethod yX5_next, Cond.selects RX5 yX5_next yX5_next, Cond.code yX5_next cX5_next 4 (some .int), Cond.methodLink RX5 144 yX5_doneNow, Cond.instanceMethod yX5_doneNow, Cond.selects RX5 yX5_doneNow yX5_doneNow, Cond.code yX5_doneNow cX5_doneNow 1 (some .int), Cond.methodLink RX5 141 yX5_isSure, Cond.instanceMethod yX5_isSure, Cond.selects RX5 yX5_isSure yX5_isSure, Cond.code yX5_isSure cX5_isSure 4 (some .boolean), Cond.methodLink RX5 113 yX5_sum, Cond.instanceMethod yX5_sum, Cond.selects RX5 yX5_sum yX5_sum, Cond.code yX5_sum cX5_sum 5 (some .long), Cond.methodLink RX5 147 yX5_besideGain]
def wsL_law_r18 : List Cond := [Cond.instanceMethod yX5_besideGain, Cond.selects RX5 yX5_besideGain yX5_besideGain, Cond.code yX5_besideGain cX5_besideGain 7 (some .int), Cond.fieldLink RX5 122 "QuestionLadderModel" "above" "J", Cond.fieldLink RX5 126 "QuestionLadderModel" "below" "J", Cond.methodLink RX5 133 yX5_gainOf, Cond.instanceMethod yX5_gainOf, Cond.selects RX5 yX5_gainOf yX5_gainOf, Cond.code yX5_gainOf cX5_gainOf 2 none, Cond.constantLong RX5 117 (5), Cond.methodLink RX5 119 yX5_squares, Cond.instanceMethod yX5_squares, Cond.selects RX5 yX5_squares yX5_squares, Cond.code yX5_squares cX5_squares 5 (some .long), Cond.methodLink RX5 129 yX5_weighs, Cond.instanceMethod yX5_weighs, Cond.selects RX5 yX5_weighs yX5_weighs, Cond.code yX5_weighs cX5_weighs 7 none, Cond.methodLink RX5 137 yX5_beside, Cond.static yX5_beside, Cond.code yX5_beside cX5_beside 23 (some .int), Cond.methodLink RL 58 yX4_answer, Cond.instanceMethod yX4_answer, Cond.selects RX4 yX4_answer yX4_answer]
def wsL_law_r19 : List Cond := [Cond.code yX4_answer cX4_answer 3 (some .int), Cond.fieldLink RX4 131 "QuestionLadder$Sitting" "total" "I", Cond.methodLink RX4 123 yX3_note, Cond.instanceMethod yX3_note, Cond.selects RX3 yX3_note yX3_note, Cond.code yX3_note cX3_note 4 none, Cond.methodLink RX3 63 yX3_weigh, Cond.instanceMethod yX3_weigh, Cond.selects RX3 yX3_weigh yX3_weigh, Cond.code yX3_weigh cX3_weigh 9 none, Cond.methodLink RX3 54 yX0_row, Cond.methodLink RX4 127 yX0_changeShown, Cond.instanceMethod yX0_changeShown, Cond.selects RX0 yX0_changeShown yX0_changeShown, Cond.code yX0_changeShown cX0_changeShown 3 none, Cond.methodLink RX0 32 yX0_fact, Cond.methodLink RL 62 yX5_answer, Cond.instanceMethod yX5_answer, Cond.selects RX5 yX5_answer yX5_answer, Cond.code yX5_answer cX5_answer 3 (some .int), Cond.methodLink RL 63 yX4_back, Cond.instanceMethod yX4_back, Cond.selects RX4 yX4_back yX4_back, Cond.code yX4_back cX4_back 1 (some .int)]
def wsL_law_r20 : List Cond := [Cond.methodLink RX4 134 yX3_takeLatest, Cond.instanceMethod yX3_takeLatest, Cond.selects RX3 yX3_takeLatest yX3_takeLatest, Cond.code yX3_takeLatest cX3_takeLatest 1 (some .int), Cond.methodLink RL 66 yX5_back, Cond.instanceMethod yX5_back, Cond.selects RX5 yX5_back yX5_back, Cond.code yX5_back cX5_back 1 (some .int), Cond.methodLink RL 67 yX4_end, Cond.instanceMethod yX4_end, Cond.selects RX4 yX4_end yX4_end, Cond.code yX4_end cX4_end 1 (some .int), Cond.fieldLink RX4 137 "QuestionLadder$Sitting" "over" "I", Cond.methodLink RX4 144 yX4_likeliestStep, Cond.methodLink RL 70 yX5_end, Cond.instanceMethod yX5_end, Cond.selects RX5 yX5_end yX5_end, Cond.code yX5_end cX5_end 3 (some .int), Cond.fieldLink RX5 151 "QuestionLadderModel" "over" "I", Cond.methodLink RL 71 yX4_quit, Cond.instanceMethod yX4_quit, Cond.selects RX4 yX4_quit yX4_quit, Cond.code yX4_quit cX4_quit 3 (some .int), Cond.methodLink RL 74 yX5_quit]
def wsL_law_r21 : List Cond := [Cond.instanceMethod yX5_quit, Cond.selects RX5 yX5_quit yX5_quit, Cond.code yX5_quit cX5_quit 2 (some .int), Cond.methodLink RL 75 yX4_may, Cond.instanceMethod yX4_may, Cond.selects RX4 yX4_may yX4_may, Cond.code yX4_may cX4_may 2 (some .int), Cond.methodLink RX4 148 yX4_asNumber, Cond.methodLink RL 78 yX5_may, Cond.instanceMethod yX5_may, Cond.selects RX5 yX5_may yX5_may, Cond.code yX5_may cX5_may 2 (some .int), Cond.methodLink RL 79 yX4_gain, Cond.instanceMethod yX4_gain, Cond.selects RX4 yX4_gain yX4_gain, Cond.code yX4_gain cX4_gain 3 (some .int), Cond.methodLink RL 82 yX5_gain, Cond.instanceMethod yX5_gain, Cond.selects RX5 yX5_gain yX5_gain, Cond.code yX5_gain cX5_gain 3 (some .int), Cond.methodLink RL 83 yX4_done, Cond.instanceMethod yX4_done, Cond.selects RX4 yX4_done yX4_done, Cond.code yX4_done cX4_done 1 (some .int)]
def wsL_law_r22 : List Cond := [Cond.methodLink RL 86 yX5_done, Cond.instanceMethod yX5_done, Cond.selects RX5 yX5_done yX5_done, Cond.code yX5_done cX5_done 1 (some .int), Cond.methodLink RL 87 yX4_now, Cond.instanceMethod yX4_now, Cond.selects RX4 yX4_now yX4_now, Cond.code yX4_now cX4_now 2 (some .int), Cond.methodLink RL 90 yX5_now, Cond.instanceMethod yX5_now, Cond.selects RX5 yX5_now yX5_now, Cond.code yX5_now cX5_now 2 (some .int), Cond.methodLink RL 91 yX4_asked, Cond.instanceMethod yX4_asked, Cond.selects RX4 yX4_asked yX4_asked, Cond.code yX4_asked cX4_asked 3 (some .int), Cond.fieldLink RX4 155 "QuestionLadder$Sitting" "questions" "[I", Cond.fieldLink RX4 158 "QuestionLadder$Sitting" "rights" "[Z", Cond.methodLink RL 94 yX5_asked, Cond.instanceMethod yX5_asked, Cond.selects RX5 yX5_asked yX5_asked, Cond.code yX5_asked cX5_asked 3 (some .int), Cond.methodLink RL 95 yX4_reach, Cond.instanceMethod yX4_reach]
def wsL_law_r23 : List Cond := [Cond.selects RX4 yX4_reach yX4_reach, Cond.code yX4_reach cX4_reach 2 (some .int), Cond.methodLink RX4 165 yX4_canBeFound, Cond.static yX4_canBeFound, Cond.code yX4_canBeFound cX4_canBeFound 6 (some .boolean), Cond.methodLink RX4 197 yX3_weightsBehind, Cond.methodLink RX4 200 yX4_isFoundBy, Cond.static yX4_isFoundBy, Cond.code yX4_isFoundBy cX4_isFoundBy 6 (some .boolean), Cond.methodLink RX4 204 yX3_weigh, Cond.methodLink RL 98 yX5_reach, Cond.instanceMethod yX5_reach, Cond.selects RX5 yX5_reach yX5_reach, Cond.code yX5_reach cX5_reach 4 (some .int), Cond.methodLink RX5 154 yX5_reachesOne, Cond.instanceMethod yX5_reachesOne, Cond.selects RX5 yX5_reachesOne yX5_reachesOne, Cond.code yX5_reachesOne cX5_reachesOne 6 (some .boolean), Cond.methodLink RX5 157 yX5_reachesTwo, Cond.instanceMethod yX5_reachesTwo, Cond.selects RX5 yX5_reachesTwo yX5_reachesTwo, Cond.code yX5_reachesTwo cX5_reachesTwo 6 (some .boolean), Cond.methodLink RX5 160 yX5_reachesThree, Cond.instanceMethod yX5_reachesThree]
def wsL_law_r24 : List Cond := [Cond.selects RX5 yX5_reachesThree yX5_reachesThree, Cond.code yX5_reachesThree cX5_reachesThree 6 (some .boolean), Cond.methodLink RL 99 yX4_count, Cond.instanceMethod yX4_count, Cond.selects RX4 yX4_count yX4_count, Cond.code yX4_count cX4_count 2 (some .int), Cond.methodLink RX4 169 yX4_sumOf, Cond.methodLink RL 102 yX5_count, Cond.instanceMethod yX5_count, Cond.selects RX5 yX5_count yX5_count, Cond.code yX5_count cX5_count 2 (some .int)]
def wsL_law : List Cond := (wsL_law_r1 ++ (wsL_law_r2 ++ (wsL_law_r3 ++ (wsL_law_r4 ++ (wsL_law_r5 ++ (wsL_law_r6 ++ (wsL_law_r7 ++ (wsL_law_r8 ++ (wsL_law_r9 ++ (wsL_law_r10 ++ (wsL_law_r11 ++ (wsL_law_r12 ++ (wsL_law_r13 ++ (wsL_law_r14 ++ (wsL_law_r15 ++ (wsL_law_r16 ++ (wsL_law_r17 ++ (wsL_law_r18 ++ (wsL_law_r19 ++ (wsL_law_r20 ++ (wsL_law_r21 ++ (wsL_law_r22 ++ (wsL_law_r23 ++ wsL_law_r24))))))))))))))))))))))) ++ wsX40 ++ wsX50 ++ wsX00 ++ wsX20 ++ wsX10 ++ wsX30 ++ ([] : List Cond)
theorem q_places {big ws : List Cond} (ps : List Nat) (h : ws = ps.filterMap (fun i => big[i]?)) : ∀ w ∈ ws, w ∈ big := by
  intro w hw
  rw [h] at hw
  obtain ⟨i, -, hi⟩ := List.mem_filterMap.mp hw
  exact List.mem_of_getElem? hi
set_option maxRecDepth 100000 in
set_option maxHeartbeats 1000000 in
theorem wsL_law_r1_in : ∀ w ∈ wsL_law_r1, w ∈ lw_tbl := q_places [42, 43, 32, 466, 467, 37, 44, 45, 46, 47, 48, 49, 50, 51, 33, 169, 68, 69, 34, 170, 103, 104, 35, 171] (by first | rfl | decide +kernel)
set_option maxRecDepth 100000 in
set_option maxHeartbeats 1000000 in
theorem wsL_law_r2_in : ∀ w ∈ wsL_law_r2, w ∈ lw_tbl := q_places [135, 136, 36, 172, 53, 54, 55, 56, 67, 61, 70, 71, 72, 73, 74, 77, 79, 81, 84, 87, 106, 107, 108, 112] (by first | rfl | decide +kernel)
set_option maxRecDepth 100000 in
set_option maxHeartbeats 1000000 in
theorem wsL_law_r3_in : ∀ w ∈ wsL_law_r3, w ∈ lw_tbl := q_places [113, 114, 134, 115, 116, 138, 139, 140, 149, 151, 141, 153, 468, 469, 470, 471, 473, 474, 475, 476, 477, 478, 479, 480] (by first | rfl | decide +kernel)
set_option maxRecDepth 100000 in
set_option maxHeartbeats 1000000 in
theorem wsL_law_r4_in : ∀ w ∈ wsL_law_r4, w ∈ lw_tbl := q_places [481, 482, 483, 484, 488, 489, 490, 491, 492, 472, 182, 183, 184, 185, 143, 58, 186, 187, 188, 190, 191, 192, 193, 194] (by first | rfl | decide +kernel)
set_option maxRecDepth 100000 in
set_option maxHeartbeats 1000000 in
theorem wsL_law_r5_in : ∀ w ∈ wsL_law_r5, w ∈ lw_tbl := q_places [195, 196, 197, 198, 59, 199, 200, 201, 202, 203, 204, 205, 206, 207, 542, 543, 544, 545, 552, 553, 485, 546, 547, 548] (by first | rfl | decide +kernel)
set_option maxRecDepth 100000 in
set_option maxHeartbeats 1000000 in
theorem wsL_law_r6_in : ∀ w ∈ wsL_law_r6, w ∈ lw_tbl := q_places [549, 550, 551, 208, 209, 210, 211, 212, 213, 214, 215, 216, 554, 555, 556, 557, 558, 560, 13, 561, 217, 218, 219, 220] (by first | rfl | decide +kernel)
set_option maxRecDepth 100000 in
set_option maxHeartbeats 1000000 in
theorem wsL_law_r7_in : ∀ w ∈ wsL_law_r7, w ∈ lw_tbl := q_places [75, 221, 562, 563, 564, 565, 222, 223, 224, 225, 82, 85, 566, 567, 568, 569, 226, 227, 228, 229, 78, 80, 570, 571] (by first | rfl | decide +kernel)
set_option maxRecDepth 100000 in
set_option maxHeartbeats 1000000 in
theorem wsL_law_r8_in : ∀ w ∈ wsL_law_r8, w ∈ lw_tbl := q_places [572, 573, 230, 231, 232, 233, 89, 234, 235, 236, 574, 575, 576, 577, 237, 238, 239, 240, 578, 579, 580, 581, 241, 242] (by first | rfl | decide +kernel)
set_option maxRecDepth 100000 in
set_option maxHeartbeats 1000000 in
theorem wsL_law_r9_in : ∀ w ∈ wsL_law_r9, w ∈ lw_tbl := q_places [243, 244, 245, 246, 247, 248, 249, 251, 0, 252, 60, 257, 258, 38, 259, 109, 253, 255, 1, 256, 110, 111, 260, 261] (by first | rfl | decide +kernel)
set_option maxRecDepth 100000 in
set_option maxHeartbeats 1000000 in
theorem wsL_law_r10_in : ∀ w ∈ wsL_law_r10, w ∈ lw_tbl := q_places [262, 263, 264, 266, 2, 267, 269, 271, 3, 272, 273, 275, 4, 276, 76, 83, 86, 277, 278, 39, 279, 280, 281, 282] (by first | rfl | decide +kernel)
set_option maxRecDepth 100000 in
set_option maxHeartbeats 1000000 in
theorem wsL_law_r11_in : ∀ w ∈ wsL_law_r11, w ∈ lw_tbl := q_places [283, 285, 5, 286, 288, 289, 582, 583, 584, 585, 586, 588, 14, 589, 590, 592, 15, 593, 594, 595, 596, 597, 599, 16] (by first | rfl | decide +kernel)
set_option maxRecDepth 100000 in
set_option maxHeartbeats 1000000 in
theorem wsL_law_r12_in : ∀ w ∈ wsL_law_r12, w ∈ lw_tbl := q_places [600, 290, 291, 292, 293, 294, 295, 296, 297, 298, 300, 6, 301, 303, 304, 305, 307, 7, 308, 309, 310, 311, 312, 142] (by first | rfl | decide +kernel)
set_option maxRecDepth 100000 in
set_option maxHeartbeats 1000000 in
theorem wsL_law_r13_in : ∀ w ∈ wsL_law_r13, w ∈ lw_tbl := q_places [145, 147, 88, 313, 315, 314, 40, 316, 318, 8, 319, 148, 320, 321, 322, 323, 324, 326, 9, 327, 328, 601, 602, 603] (by first | rfl | decide +kernel)
set_option maxRecDepth 100000 in
set_option maxHeartbeats 1000000 in
theorem wsL_law_r14_in : ∀ w ∈ wsL_law_r14, w ∈ lw_tbl := q_places [604, 487, 605, 607, 17, 608, 609, 611, 18, 612, 613, 615, 19, 616, 617, 619, 20, 620, 329, 330, 331, 332, 333, 335] (by first | rfl | decide +kernel)
set_option maxRecDepth 100000 in
set_option maxHeartbeats 1000000 in
theorem wsL_law_r15_in : ∀ w ∈ wsL_law_r15, w ∈ lw_tbl := q_places [10, 336, 337, 338, 339, 340, 341, 342, 343, 344, 345, 346, 347, 348, 350, 351, 352, 353, 355, 356, 358, 359, 360, 362] (by first | rfl | decide +kernel)
set_option maxRecDepth 100000 in
set_option maxHeartbeats 1000000 in
theorem wsL_law_r16_in : ∀ w ∈ wsL_law_r16, w ∈ lw_tbl := q_places [11, 363, 364, 365, 367, 12, 368, 369, 370, 371, 372, 379, 373, 374, 375, 376, 377, 378, 380, 381, 382, 383, 384, 385] (by first | rfl | decide +kernel)
set_option maxRecDepth 100000 in
set_option maxHeartbeats 1000000 in
theorem wsL_law_r17_in : ∀ w ∈ wsL_law_r17, w ∈ lw_tbl := q_places [386, 387, 388, 389, 390, 41, 391, 621, 622, 623, 624, 625, 627, 21, 628, 629, 631, 22, 632, 633, 635, 23, 636, 637] (by first | rfl | decide +kernel)
set_option maxRecDepth 100000 in
set_option maxHeartbeats 1000000 in
theorem wsL_law_r18_in : ∀ w ∈ wsL_law_r18, w ∈ lw_tbl := q_places [639, 24, 640, 493, 494, 641, 643, 25, 644, 645, 646, 648, 26, 649, 650, 652, 27, 653, 654, 655, 656, 392, 393, 394] (by first | rfl | decide +kernel)
set_option maxRecDepth 100000 in
set_option maxHeartbeats 1000000 in
theorem wsL_law_r19_in : ∀ w ∈ wsL_law_r19, w ∈ lw_tbl := q_places [395, 146, 396, 397, 398, 399, 400, 401, 402, 403, 404, 406, 407, 408, 409, 410, 657, 658, 659, 660, 411, 412, 413, 414] (by first | rfl | decide +kernel)
set_option maxRecDepth 100000 in
set_option maxHeartbeats 1000000 in
theorem wsL_law_r20_in : ∀ w ∈ wsL_law_r20, w ∈ lw_tbl := q_places [415, 416, 417, 418, 661, 662, 663, 664, 419, 420, 421, 422, 144, 423, 665, 666, 667, 668, 486, 424, 425, 426, 427, 669] (by first | rfl | decide +kernel)
set_option maxRecDepth 100000 in
set_option maxHeartbeats 1000000 in
theorem wsL_law_r21_in : ∀ w ∈ wsL_law_r21, w ∈ lw_tbl := q_places [670, 671, 672, 428, 429, 430, 431, 432, 673, 674, 675, 676, 433, 434, 435, 436, 677, 678, 679, 680, 437, 438, 439, 440] (by first | rfl | decide +kernel)
set_option maxRecDepth 100000 in
set_option maxHeartbeats 1000000 in
theorem wsL_law_r22_in : ∀ w ∈ wsL_law_r22, w ∈ lw_tbl := q_places [681, 682, 683, 684, 441, 442, 443, 444, 685, 686, 687, 688, 445, 446, 447, 448, 150, 152, 689, 690, 691, 692, 449, 450] (by first | rfl | decide +kernel)
set_option maxRecDepth 100000 in
set_option maxHeartbeats 1000000 in
theorem wsL_law_r23_in : ∀ w ∈ wsL_law_r23, w ∈ lw_tbl := q_places [451, 452, 453, 454, 455, 456, 457, 458, 459, 460, 693, 694, 695, 696, 697, 699, 28, 700, 701, 703, 29, 704, 705, 707] (by first | rfl | decide +kernel)
set_option maxRecDepth 100000 in
set_option maxHeartbeats 1000000 in
theorem wsL_law_r24_in : ∀ w ∈ wsL_law_r24, w ∈ lw_tbl := q_places [30, 708, 461, 462, 463, 464, 465, 709, 710, 711, 712] (by first | rfl | decide +kernel)
set_option maxRecDepth 100000 in
theorem wsX00_in : ∀ w ∈ wsX00, w ∈ lw_tbl := by decide +kernel
set_option maxRecDepth 100000 in
theorem wsX10_in : ∀ w ∈ wsX10, w ∈ lw_tbl := by decide +kernel
set_option maxRecDepth 100000 in
theorem wsX20_in : ∀ w ∈ wsX20, w ∈ lw_tbl := by decide +kernel
set_option maxRecDepth 100000 in
theorem wsX30_in : ∀ w ∈ wsX30, w ∈ lw_tbl := by decide +kernel
set_option maxRecDepth 100000 in
theorem wsX40_in : ∀ w ∈ wsX40, w ∈ lw_tbl := by decide +kernel
set_option maxRecDepth 100000 in
theorem wsX50_in : ∀ w ∈ wsX50, w ∈ lw_tbl := by decide +kernel
theorem wsL_law_in : ∀ w ∈ wsL_law, w ∈ lw_tbl := List.forall_mem_append.mpr ⟨List.forall_mem_append.mpr ⟨List.forall_mem_append.mpr ⟨List.forall_mem_append.mpr ⟨List.forall_mem_append.mpr ⟨List.forall_mem_append.mpr ⟨List.forall_mem_append.mpr ⟨List.forall_mem_append.mpr ⟨wsL_law_r1_in, List.forall_mem_append.mpr ⟨wsL_law_r2_in, List.forall_mem_append.mpr ⟨wsL_law_r3_in, List.forall_mem_append.mpr ⟨wsL_law_r4_in, List.forall_mem_append.mpr ⟨wsL_law_r5_in, List.forall_mem_append.mpr ⟨wsL_law_r6_in, List.forall_mem_append.mpr ⟨wsL_law_r7_in, List.forall_mem_append.mpr ⟨wsL_law_r8_in, List.forall_mem_append.mpr ⟨wsL_law_r9_in, List.forall_mem_append.mpr ⟨wsL_law_r10_in, List.forall_mem_append.mpr ⟨wsL_law_r11_in, List.forall_mem_append.mpr ⟨wsL_law_r12_in, List.forall_mem_append.mpr ⟨wsL_law_r13_in, List.forall_mem_append.mpr ⟨wsL_law_r14_in, List.forall_mem_append.mpr ⟨wsL_law_r15_in, List.forall_mem_append.mpr ⟨wsL_law_r16_in, List.forall_mem_append.mpr ⟨wsL_law_r17_in, List.forall_mem_append.mpr ⟨wsL_law_r18_in, List.forall_mem_append.mpr ⟨wsL_law_r19_in, List.forall_mem_append.mpr ⟨wsL_law_r20_in, List.forall_mem_append.mpr ⟨wsL_law_r21_in, List.forall_mem_append.mpr ⟨wsL_law_r22_in, List.forall_mem_append.mpr ⟨wsL_law_r23_in, wsL_law_r24_in⟩⟩⟩⟩⟩⟩⟩⟩⟩⟩⟩⟩⟩⟩⟩⟩⟩⟩⟩⟩⟩⟩⟩, wsX40_in⟩, wsX50_in⟩, wsX00_in⟩, wsX20_in⟩, wsX10_in⟩, wsX30_in⟩, fun w h => absurd h List.not_mem_nil⟩
theorem inlX0 : ∀ w ∈ wsX00, w ∈ wsL_law := fun _ h => List.mem_append_left _ (List.mem_append_left _ (List.mem_append_left _ (List.mem_append_left _ (List.mem_append_right _ h))))
theorem inX0 : ∀ w ∈ wsX00, w ∈ lw_tbl := fun w h => wsL_law_in w (inlX0 w h)
theorem inlX1 : ∀ w ∈ wsX10, w ∈ wsL_law := fun _ h => List.mem_append_left _ (List.mem_append_left _ (List.mem_append_right _ h))
theorem inX1 : ∀ w ∈ wsX10, w ∈ lw_tbl := fun w h => wsL_law_in w (inlX1 w h)
theorem inlX2 : ∀ w ∈ wsX20, w ∈ wsL_law := fun _ h => List.mem_append_left _ (List.mem_append_left _ (List.mem_append_left _ (List.mem_append_right _ h)))
theorem inX2 : ∀ w ∈ wsX20, w ∈ lw_tbl := fun w h => wsL_law_in w (inlX2 w h)
theorem inlX3 : ∀ w ∈ wsX30, w ∈ wsL_law := fun _ h => List.mem_append_left _ (List.mem_append_right _ h)
theorem inX3 : ∀ w ∈ wsX30, w ∈ lw_tbl := fun w h => wsL_law_in w (inlX3 w h)
theorem inlX4 : ∀ w ∈ wsX40, w ∈ wsL_law := fun _ h => List.mem_append_left _ (List.mem_append_left _ (List.mem_append_left _ (List.mem_append_left _ (List.mem_append_left _ (List.mem_append_left _ (List.mem_append_right _ h))))))
theorem inX4 : ∀ w ∈ wsX40, w ∈ lw_tbl := fun w h => wsL_law_in w (inlX4 w h)
theorem inlX5 : ∀ w ∈ wsX50, w ∈ wsL_law := fun _ h => List.mem_append_left _ (List.mem_append_left _ (List.mem_append_left _ (List.mem_append_left _ (List.mem_append_left _ (List.mem_append_right _ h)))))
theorem inX5 : ∀ w ∈ wsX50, w ∈ lw_tbl := fun w h => wsL_law_in w (inlX5 w h)
theorem inJ6 : ∀ w ∈ wsJ60, w ∈ lw_tbl := by decide +kernel
theorem inJ13 : ∀ w ∈ wsJ130, w ∈ lw_tbl := by decide +kernel
theorem inJ9 : ∀ w ∈ wsJ90, w ∈ lw_tbl := by decide +kernel
theorem inJ10 : ∀ w ∈ wsJ100, w ∈ lw_tbl := by decide +kernel
abbrev vwCl : List vw_C := [(RX0, TX0, 2), (RX1, TX1, 8), (RX2, TX2, 6), (RX3, TX3, 7), (RX4, TX4, 4), (RX5, TX5, 23)]
