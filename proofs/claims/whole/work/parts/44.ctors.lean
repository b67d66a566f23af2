/-! The constructors (by program: wip/whole/c44.py) -/
abbrev qc_f (cT : ClassId) (n : Nat) (f : Nat → Int32) : va_E := .inl (cT, n, .inl f)
abbrev qc_r (cA : ClassId) (n q : Nat) : va_E := .inl (cA, n, .inr (.inr (.inr (.inr (fun j => some (q + 1 + j))))))
set_option maxRecDepth 100000 in
theorem cm_30 : Cond.methodLink RX0 3 objectInit ∈ wsL_law := List.mem_of_getElem? (i := 30) rfl
set_option maxRecDepth 100000 in
theorem cm_10 : Cond.instanceMethod objectInit ∈ wsL_law := List.mem_of_getElem? (i := 10) rfl
set_option maxRecDepth 100000 in
theorem cm_11 : Cond.code objectInit ⟨#[0xb1]⟩ 1 none ∈ wsL_law := List.mem_of_getElem? (i := 11) rfl
set_option maxRecDepth 100000 in
theorem cm_31 : Cond.classLink RX0 9 "[[I" ∈ wsL_law := List.mem_of_getElem? (i := 31) rfl
set_option maxRecDepth 100000 in
theorem cm_33 : Cond.fieldLink RX0 11 "QuestionLadder$Bank" "facts" "[[I" ∈ wsL_law := List.mem_of_getElem? (i := 33) rfl
set_option maxRecDepth 100000 in
theorem cm_46 : Cond.methodLink RX1 3 objectInit ∈ wsL_law := List.mem_of_getElem? (i := 46) rfl
set_option maxRecDepth 100000 in
theorem cm_32 : Cond.arrayClass .int ∈ wsL_law := List.mem_of_getElem? (i := 32) rfl
set_option maxRecDepth 100000 in
theorem cm_47 : Cond.fieldLink RX1 9 "QuestionLadder$FitSets" "texts" "[I" ∈ wsL_law := List.mem_of_getElem? (i := 47) rfl
set_option maxRecDepth 100000 in
theorem cm_48 : Cond.fieldLink RX1 15 "QuestionLadder$FitSets" "foes" "[I" ∈ wsL_law := List.mem_of_getElem? (i := 48) rfl
set_option maxRecDepth 100000 in
theorem cm_49 : Cond.fieldLink RX1 18 "QuestionLadder$FitSets" "contents" "[I" ∈ wsL_law := List.mem_of_getElem? (i := 49) rfl
set_option maxRecDepth 100000 in
theorem cm_50 : Cond.arrayClass .boolean ∈ wsL_law := List.mem_of_getElem? (i := 50) rfl
set_option maxRecDepth 100000 in
theorem cm_51 : Cond.fieldLink RX1 21 "QuestionLadder$FitSets" "fits" "[Z" ∈ wsL_law := List.mem_of_getElem? (i := 51) rfl
set_option maxRecDepth 100000 in
theorem cm_52 : Cond.fieldLink RX1 25 "QuestionLadder$FitSets" "partOfFit" "[Z" ∈ wsL_law := List.mem_of_getElem? (i := 52) rfl
set_option maxRecDepth 100000 in
theorem cm_37 : Cond.methodLink RX2 3 objectInit ∈ wsL_law := List.mem_of_getElem? (i := 37) rfl
set_option maxRecDepth 100000 in
theorem cm_38 : Cond.fieldLink RX2 9 "QuestionLadder$Rules" "most" "I" ∈ wsL_law := List.mem_of_getElem? (i := 38) rfl
set_option maxRecDepth 100000 in
theorem cm_39 : Cond.fieldLink RX2 15 "QuestionLadder$Rules" "sureOf" "I" ∈ wsL_law := List.mem_of_getElem? (i := 39) rfl
set_option maxRecDepth 100000 in
theorem cm_40 : Cond.fieldLink RX2 18 "QuestionLadder$Rules" "sureIn" "I" ∈ wsL_law := List.mem_of_getElem? (i := 40) rfl
set_option maxRecDepth 100000 in
theorem cm_41 : Cond.fieldLink RX2 21 "QuestionLadder$Rules" "lows" "[I" ∈ wsL_law := List.mem_of_getElem? (i := 41) rfl
set_option maxRecDepth 100000 in
theorem cm_42 : Cond.fieldLink RX2 25 "QuestionLadder$Rules" "highs" "[I" ∈ wsL_law := List.mem_of_getElem? (i := 42) rfl
set_option maxRecDepth 100000 in
theorem cm_43 : Cond.fieldLink RX2 28 "QuestionLadder$Rules" "firstWeights" "[I" ∈ wsL_law := List.mem_of_getElem? (i := 43) rfl
set_option maxRecDepth 100000 in
theorem cm_55 : Cond.methodLink RX3 3 objectInit ∈ wsL_law := List.mem_of_getElem? (i := 55) rfl
set_option maxRecDepth 100000 in
theorem cm_56 : Cond.fieldLink RX3 9 "QuestionLadder$Sitting" "questions" "[I" ∈ wsL_law := List.mem_of_getElem? (i := 56) rfl
set_option maxRecDepth 100000 in
theorem cm_57 : Cond.fieldLink RX3 15 "QuestionLadder$Sitting" "rights" "[Z" ∈ wsL_law := List.mem_of_getElem? (i := 57) rfl
set_option maxRecDepth 100000 in
theorem cm_58 : Cond.classLink RX3 19 "[[I" ∈ wsL_law := List.mem_of_getElem? (i := 58) rfl
set_option maxRecDepth 100000 in
theorem cm_59 : Cond.fieldLink RX3 21 "QuestionLadder$Sitting" "weightRows" "[[I" ∈ wsL_law := List.mem_of_getElem? (i := 59) rfl
set_option maxRecDepth 100000 in
theorem cm_63 : Cond.methodLink RX5 1 objectInit ∈ wsL_law := List.mem_of_getElem? (i := 63) rfl
set_option maxRecDepth 100000 in
theorem cm_64 : Cond.fieldLink RX5 7 "QuestionLadderModel" "kind" "[I" ∈ wsL_law := List.mem_of_getElem? (i := 64) rfl
set_option maxRecDepth 100000 in
theorem cm_65 : Cond.fieldLink RX5 13 "QuestionLadderModel" "group" "[I" ∈ wsL_law := List.mem_of_getElem? (i := 65) rfl
set_option maxRecDepth 100000 in
theorem cm_66 : Cond.fieldLink RX5 16 "QuestionLadderModel" "content" "[I" ∈ wsL_law := List.mem_of_getElem? (i := 66) rfl
set_option maxRecDepth 100000 in
theorem cm_67 : Cond.fieldLink RX5 19 "QuestionLadderModel" "limit" "[I" ∈ wsL_law := List.mem_of_getElem? (i := 67) rfl
set_option maxRecDepth 100000 in
theorem cm_68 : Cond.fieldLink RX5 22 "QuestionLadderModel" "shown" "[I" ∈ wsL_law := List.mem_of_getElem? (i := 68) rfl
set_option maxRecDepth 100000 in
theorem cm_69 : Cond.fieldLink RX5 25 "QuestionLadderModel" "chance" "[I" ∈ wsL_law := List.mem_of_getElem? (i := 69) rfl
set_option maxRecDepth 100000 in
theorem cm_70 : Cond.fieldLink RX5 28 "QuestionLadderModel" "length" "I" ∈ wsL_law := List.mem_of_getElem? (i := 70) rfl
set_option maxRecDepth 100000 in
theorem cm_71 : Cond.fieldLink RX5 32 "QuestionLadderModel" "low" "[I" ∈ wsL_law := List.mem_of_getElem? (i := 71) rfl
set_option maxRecDepth 100000 in
theorem cm_72 : Cond.fieldLink RX5 35 "QuestionLadderModel" "high" "[I" ∈ wsL_law := List.mem_of_getElem? (i := 72) rfl
set_option maxRecDepth 100000 in
theorem cm_73 : Cond.fieldLink RX5 38 "QuestionLadderModel" "sureOf" "I" ∈ wsL_law := List.mem_of_getElem? (i := 73) rfl
set_option maxRecDepth 100000 in
theorem cm_74 : Cond.fieldLink RX5 41 "QuestionLadderModel" "sureBy" "I" ∈ wsL_law := List.mem_of_getElem? (i := 74) rfl
set_option maxRecDepth 100000 in
theorem cm_75 : Cond.fieldLink RX5 44 "QuestionLadderModel" "first" "[I" ∈ wsL_law := List.mem_of_getElem? (i := 75) rfl
set_option maxRecDepth 100000 in
theorem cm_76 : Cond.fieldLink RX5 47 "QuestionLadderModel" "order" "[I" ∈ wsL_law := List.mem_of_getElem? (i := 76) rfl
set_option maxRecDepth 100000 in
theorem cm_77 : Cond.fieldLink RX5 50 "QuestionLadderModel" "wasRight" "[Z" ∈ wsL_law := List.mem_of_getElem? (i := 77) rfl
set_option maxRecDepth 100000 in
theorem cm_78 : Cond.fieldLink RX5 54 "QuestionLadderModel" "weights" "[I" ∈ wsL_law := List.mem_of_getElem? (i := 78) rfl
set_option maxRecDepth 100000 in
theorem cm_79 : Cond.fieldLink RX5 57 "QuestionLadderModel" "fits" "[Z" ∈ wsL_law := List.mem_of_getElem? (i := 79) rfl
set_option maxRecDepth 100000 in
theorem cm_80 : Cond.fieldLink RX5 60 "QuestionLadderModel" "canFit" "[Z" ∈ wsL_law := List.mem_of_getElem? (i := 80) rfl
set_option maxRecDepth 100000 in
theorem cm_81 : Cond.fieldLink RX5 63 "QuestionLadderModel" "questions" "I" ∈ wsL_law := List.mem_of_getElem? (i := 81) rfl
set_option maxRecDepth 100000 in
theorem cm_9 : Cond.methodLink RX4 3 objectInit ∈ wsL_law := List.mem_of_getElem? (i := 9) rfl
set_option maxRecDepth 100000 in
theorem cm_12 : Cond.classLink RX4 9 RX0 ∈ wsL_law := List.mem_of_getElem? (i := 12) rfl
set_option maxRecDepth 100000 in
theorem cm_13 : Cond.instantiable RX0 2 ∈ wsL_law := List.mem_of_getElem? (i := 13) rfl
set_option maxRecDepth 100000 in
theorem cm_14 : Cond.initialized RX0 ∈ wsL_law := List.mem_of_getElem? (i := 14) rfl
set_option maxRecDepth 100000 in
theorem cm_29 : Cond.code yX0_init cX0_init 1 none ∈ wsL_law := List.mem_of_getElem? (i := 29) rfl
set_option maxRecDepth 100000 in
theorem cm_28 : Cond.instanceMethod yX0_init ∈ wsL_law := List.mem_of_getElem? (i := 28) rfl
set_option maxRecDepth 100000 in
theorem cm_15 : Cond.fieldLink RX4 12 "QuestionLadder" "bank" "LQuestionLadder$Bank;" ∈ wsL_law := List.mem_of_getElem? (i := 15) rfl
set_option maxRecDepth 100000 in
theorem cm_16 : Cond.classLink RX4 16 RX2 ∈ wsL_law := List.mem_of_getElem? (i := 16) rfl
set_option maxRecDepth 100000 in
theorem cm_17 : Cond.instantiable RX2 6 ∈ wsL_law := List.mem_of_getElem? (i := 17) rfl
set_option maxRecDepth 100000 in
theorem cm_18 : Cond.initialized RX2 ∈ wsL_law := List.mem_of_getElem? (i := 18) rfl
set_option maxRecDepth 100000 in
theorem cm_36 : Cond.code yX2_init cX2_init 2 none ∈ wsL_law := List.mem_of_getElem? (i := 36) rfl
set_option maxRecDepth 100000 in
theorem cm_34 : Cond.methodLink RX4 18 yX2_init ∈ wsL_law := List.mem_of_getElem? (i := 34) rfl
set_option maxRecDepth 100000 in
theorem cm_35 : Cond.instanceMethod yX2_init ∈ wsL_law := List.mem_of_getElem? (i := 35) rfl
set_option maxRecDepth 100000 in
theorem cm_19 : Cond.fieldLink RX4 19 "QuestionLadder" "rules" "LQuestionLadder$Rules;" ∈ wsL_law := List.mem_of_getElem? (i := 19) rfl
set_option maxRecDepth 100000 in
theorem cm_20 : Cond.classLink RX4 23 RX1 ∈ wsL_law := List.mem_of_getElem? (i := 20) rfl
set_option maxRecDepth 100000 in
theorem cm_21 : Cond.instantiable RX1 8 ∈ wsL_law := List.mem_of_getElem? (i := 21) rfl
set_option maxRecDepth 100000 in
theorem cm_22 : Cond.initialized RX1 ∈ wsL_law := List.mem_of_getElem? (i := 22) rfl
set_option maxRecDepth 100000 in
theorem cm_45 : Cond.code yX1_init cX1_init 1 none ∈ wsL_law := List.mem_of_getElem? (i := 45) rfl
set_option maxRecDepth 100000 in
theorem cm_44 : Cond.instanceMethod yX1_init ∈ wsL_law := List.mem_of_getElem? (i := 44) rfl
set_option maxRecDepth 100000 in
theorem cm_23 : Cond.fieldLink RX4 26 "QuestionLadder" "sets" "LQuestionLadder$FitSets;" ∈ wsL_law := List.mem_of_getElem? (i := 23) rfl
set_option maxRecDepth 100000 in
theorem cm_24 : Cond.classLink RX4 30 RX3 ∈ wsL_law := List.mem_of_getElem? (i := 24) rfl
set_option maxRecDepth 100000 in
theorem cm_25 : Cond.instantiable RX3 7 ∈ wsL_law := List.mem_of_getElem? (i := 25) rfl
set_option maxRecDepth 100000 in
theorem cm_26 : Cond.initialized RX3 ∈ wsL_law := List.mem_of_getElem? (i := 26) rfl
set_option maxRecDepth 100000 in
theorem cm_54 : Cond.code yX3_init cX3_init 1 none ∈ wsL_law := List.mem_of_getElem? (i := 54) rfl
set_option maxRecDepth 100000 in
theorem cm_53 : Cond.instanceMethod yX3_init ∈ wsL_law := List.mem_of_getElem? (i := 53) rfl
set_option maxRecDepth 100000 in
theorem cm_27 : Cond.fieldLink RX4 33 "QuestionLadder" "sitting" "LQuestionLadder$Sitting;" ∈ wsL_law := List.mem_of_getElem? (i := 27) rfl
theorem dX0_init_0 : decode cX0_init 0 = .ok (.aload_n 0, 1) := by decide +kernel
theorem dX0_init_1 : decode cX0_init 1 = .ok (.invokespecial 3, 3) := by decide +kernel
theorem dX0_init_4 : decode cX0_init 4 = .ok (.aload_n 0, 1) := by decide +kernel
theorem dX0_init_5 : decode cX0_init 5 = .ok (.bipush 10, 2) := by decide +kernel
theorem dX0_init_7 : decode cX0_init 7 = .ok (.bipush 11, 2) := by decide +kernel
theorem dX0_init_9 : decode cX0_init 9 = .ok (.multianewarray 9 2, 4) := by decide +kernel
theorem dX0_init_13 : decode cX0_init 13 = .ok (.putfield 11, 3) := by decide +kernel
theorem dX0_init_16 : decode cX0_init 16 = .ok (.return_, 1) := by decide +kernel
def qw_X0 (cI cZ cA : ClassId) (h : Nat) (a : Nat → Nat) : va_W := [(h, .inr (0, [.int 0, .ref (a 0)])), (a 0, qc_r cA 10 (a 0)), ((a 0) + 1 + 0, qc_f cI 11 (fun _ => 0)), ((a 0) + 1 + 1, qc_f cI 11 (fun _ => 0)), ((a 0) + 1 + 2, qc_f cI 11 (fun _ => 0)), ((a 0) + 1 + 3, qc_f cI 11 (fun _ => 0)), ((a 0) + 1 + 4, qc_f cI 11 (fun _ => 0)), ((a 0) + 1 + 5, qc_f cI 11 (fun _ => 0)), ((a 0) + 1 + 6, qc_f cI 11 (fun _ => 0)), ((a 0) + 1 + 7, qc_f cI 11 (fun _ => 0)), ((a 0) + 1 + 8, qc_f cI 11 (fun _ => 0)), ((a 0) + 1 + 9, qc_f cI 11 (fun _ => 0))]
set_option maxHeartbeats 4000000 in
set_option maxRecDepth 100000 in
theorem cb_X0 (l : Launch) (D : va_G) (cI cZ cA : ClassId) (h0 sz : Nat) : Met l yX0_init (.code yX0_init cX0_init 1 none :: wsL_law) ({ frames := 1, cells := 11, slots := 120, locals := 40 }) (va_Pc [.ref h0] (qb_Pc D cI cZ cA [(h0, .inr (0, [.int 0, .null]))] sz)) (va_Qv (fun _ : Nat → Nat => True) (fun a t => va_P D vwCl (qw_X0 cI cZ cA h0 a) t.heap ∧ va_D (va_A [(h0, .inr (0, [.int 0, .null]))] sz) (qw_X0 cI cZ cA h0 a)) (va_A [(h0, .inr (0, [.int 0, .null]))] sz)) 11 120 (va_A [(h0, .inr (0, [.int 0, .null]))] sz) := by
  refine Met.ofW (cc := cX0_init) (maxL := 1) (ret := none) (by decide) rfl ?_
  intro p e s m args below meth c s₁ B hml hv
  obtain ⟨rfl, hsz, hP, hK, hD0, hAA, hBW⟩ := hv
  have hx := B.exec
  have hb := B.bytes
  have hr := B.returns
  have hts0 := atoms_spec (ws := .code yX0_init cX0_init 1 none :: wsL_law) B.pre
  have hts : ∀ w ∈ wsL_law, w.before ([Value.ref h0] : List Value).toArray s = true := fun w hw => hts0 w (List.mem_cons_of_mem _ hw)
  have hown : s.vm.findClass RX0 = some m.cls := findClass_of_methodNamed B.named
  have hlocks := B.notSynchronized
  have hin : meth.name = "<init>" := (name_of_methodNamed B.named B.method).1
  subst hsz
  have hD := hD0.self (sz := s.heap.size)
  generalize hAe : va_A [(h0, .inr (0, [.int 0, .null]))] s.heap.size = A at hD ⊢
  have hA : ∀ q : Nat, s.heap.size ≤ q → A q := fun q h => by rw [← hAe]; exact Or.inr h
  have hS : va_S A s.heap s.heap [] := va_S.rf
  have hP : va_P D vwCl [(h0, .inr (0, [.int 0, .null]))] s.heap := hP
  have hl := lv_entry ([.ref h0]) (n := 1) (Nat.le_of_ble_eq_true rfl)
  rw [lg_entry_eq]
  generalize (lg_sl ([.ref h0]) ++ List.replicate (1 - (lg_sl ([.ref h0])).length) Slot.unset).toArray = ls at hl ⊢
  have hl : lv_has ls 1 [(0, .ref h0)] := hl
  refine lv_aload_n hx hb dX0_init_0 rfl (lv_at hl 0 rfl) ?_
  refine W.objInit hx hb hown (hts (.methodLink RX0 3 objectInit) cm_30) (hts (.instanceMethod objectInit) cm_10) (hts (.code objectInit ⟨#[0xb1]⟩ 1 none) cm_11) rfl (by rw [hml]; exact hl.1) rfl dX0_init_1 (Nat.le_of_ble_eq_true rfl) (Nat.le_of_ble_eq_true rfl) ?_
  refine W.eq (g2 := F0 m 4 ls []) rfl ?_
  refine lv_aload_n hx hb dX0_init_4 rfl (lv_at hl 0 rfl) ?_
  refine lv_bipush (v := 10) hx hb dX0_init_5 (by decide) ?_
  refine lv_bipush (v := 11) hx hb dX0_init_7 (by decide) ?_
  refine qb_grid (N := 10) (M := 11) (cA := cA) (cI := cI) hx hb hown (hts (.classLink RX0 9 "[[I") cm_31) hAA (by decide) (by decide) (Nat.le_of_ble_eq_true rfl) (Nat.le_of_ble_eq_true rfl) hP hD hS hA rfl rfl dX0_init_9 (fun q9 H locs hP hD hS => ?_)
  have hP : va_P D vwCl [(h0, .inr (0, [.int 0, .null])), (q9, qc_r cA 10 (q9)), (q9 + 1 + 0, qc_f cI 11 (fun _ => 0)), (q9 + 1 + 1, qc_f cI 11 (fun _ => 0)), (q9 + 1 + 2, qc_f cI 11 (fun _ => 0)), (q9 + 1 + 3, qc_f cI 11 (fun _ => 0)), (q9 + 1 + 4, qc_f cI 11 (fun _ => 0)), (q9 + 1 + 5, qc_f cI 11 (fun _ => 0)), (q9 + 1 + 6, qc_f cI 11 (fun _ => 0)), (q9 + 1 + 7, qc_f cI 11 (fun _ => 0)), (q9 + 1 + 8, qc_f cI 11 (fun _ => 0)), (q9 + 1 + 9, qc_f cI 11 (fun _ => 0))] H := hP
  have hD : va_D A [(h0, .inr (0, [.int 0, .null])), (q9, qc_r cA 10 (q9)), (q9 + 1 + 0, qc_f cI 11 (fun _ => 0)), (q9 + 1 + 1, qc_f cI 11 (fun _ => 0)), (q9 + 1 + 2, qc_f cI 11 (fun _ => 0)), (q9 + 1 + 3, qc_f cI 11 (fun _ => 0)), (q9 + 1 + 4, qc_f cI 11 (fun _ => 0)), (q9 + 1 + 5, qc_f cI 11 (fun _ => 0)), (q9 + 1 + 6, qc_f cI 11 (fun _ => 0)), (q9 + 1 + 7, qc_f cI 11 (fun _ => 0)), (q9 + 1 + 8, qc_f cI 11 (fun _ => 0)), (q9 + 1 + 9, qc_f cI 11 (fun _ => 0))] := hD
  refine W.widen (k := 11) (n := 120) (by omega) (by omega) ?_
  refine va_putF (D := D) (ci := 0) (v := .ref q9) (ty := .array (.array .int)) (C := RX0) (T := TX0) (N := 2) hx hb hts inlX0 tyX0 tyX0_ok nmX0 hown hK hP hD hS 0 rfl rfl 1 (by decide) (hts (.fieldLink RX0 11 "QuestionLadder$Bank" "facts" "[[I") cm_33) (fun _ h9 => h9) rfl hin rfl (by decide +kernel) rfl rfl (Nat.le_of_ble_eq_true rfl) dX0_init_13 (fun H locs hP hD hS => ?_)
  have hP : va_P D vwCl [(h0, .inr (0, [.int 0, .ref q9])), (q9, qc_r cA 10 (q9)), (q9 + 1 + 0, qc_f cI 11 (fun _ => 0)), (q9 + 1 + 1, qc_f cI 11 (fun _ => 0)), (q9 + 1 + 2, qc_f cI 11 (fun _ => 0)), (q9 + 1 + 3, qc_f cI 11 (fun _ => 0)), (q9 + 1 + 4, qc_f cI 11 (fun _ => 0)), (q9 + 1 + 5, qc_f cI 11 (fun _ => 0)), (q9 + 1 + 6, qc_f cI 11 (fun _ => 0)), (q9 + 1 + 7, qc_f cI 11 (fun _ => 0)), (q9 + 1 + 8, qc_f cI 11 (fun _ => 0)), (q9 + 1 + 9, qc_f cI 11 (fun _ => 0))] H := hP
  have hD : va_D A [(h0, .inr (0, [.int 0, .ref q9])), (q9, qc_r cA 10 (q9)), (q9 + 1 + 0, qc_f cI 11 (fun _ => 0)), (q9 + 1 + 1, qc_f cI 11 (fun _ => 0)), (q9 + 1 + 2, qc_f cI 11 (fun _ => 0)), (q9 + 1 + 3, qc_f cI 11 (fun _ => 0)), (q9 + 1 + 4, qc_f cI 11 (fun _ => 0)), (q9 + 1 + 5, qc_f cI 11 (fun _ => 0)), (q9 + 1 + 6, qc_f cI 11 (fun _ => 0)), (q9 + 1 + 7, qc_f cI 11 (fun _ => 0)), (q9 + 1 + 8, qc_f cI 11 (fun _ => 0)), (q9 + 1 + 9, qc_f cI 11 (fun _ => 0))] := hD
  exact W.vret hx hb hr (fun t ht hW => ⟨⟨fun i => ([q9] : List Nat).getD i 0, rfl, trivial, by rw [ht]; exact hP, hD⟩, hS.F ht⟩) hS.2.2 dX0_init_16
theorem dX1_init_0 : decode cX1_init 0 = .ok (.aload_n 0, 1) := by decide +kernel
theorem dX1_init_1 : decode cX1_init 1 = .ok (.invokespecial 3, 3) := by decide +kernel
theorem dX1_init_4 : decode cX1_init 4 = .ok (.aload_n 0, 1) := by decide +kernel
theorem dX1_init_5 : decode cX1_init 5 = .ok (.iconst 3, 1) := by decide +kernel
theorem dX1_init_6 : decode cX1_init 6 = .ok (.newarray .int, 2) := by decide +kernel
theorem dX1_init_8 : decode cX1_init 8 = .ok (.putfield 9, 3) := by decide +kernel
theorem dX1_init_11 : decode cX1_init 11 = .ok (.aload_n 0, 1) := by decide +kernel
theorem dX1_init_12 : decode cX1_init 12 = .ok (.iconst 3, 1) := by decide +kernel
theorem dX1_init_13 : decode cX1_init 13 = .ok (.newarray .int, 2) := by decide +kernel
theorem dX1_init_15 : decode cX1_init 15 = .ok (.putfield 15, 3) := by decide +kernel
theorem dX1_init_18 : decode cX1_init 18 = .ok (.aload_n 0, 1) := by decide +kernel
theorem dX1_init_19 : decode cX1_init 19 = .ok (.iconst 3, 1) := by decide +kernel
theorem dX1_init_20 : decode cX1_init 20 = .ok (.newarray .int, 2) := by decide +kernel
theorem dX1_init_22 : decode cX1_init 22 = .ok (.putfield 18, 3) := by decide +kernel
theorem dX1_init_25 : decode cX1_init 25 = .ok (.aload_n 0, 1) := by decide +kernel
theorem dX1_init_26 : decode cX1_init 26 = .ok (.sipush 1024, 3) := by decide +kernel
theorem dX1_init_29 : decode cX1_init 29 = .ok (.newarray .boolean, 2) := by decide +kernel
theorem dX1_init_31 : decode cX1_init 31 = .ok (.putfield 21, 3) := by decide +kernel
theorem dX1_init_34 : decode cX1_init 34 = .ok (.aload_n 0, 1) := by decide +kernel
theorem dX1_init_35 : decode cX1_init 35 = .ok (.sipush 1024, 3) := by decide +kernel
theorem dX1_init_38 : decode cX1_init 38 = .ok (.newarray .boolean, 2) := by decide +kernel
theorem dX1_init_40 : decode cX1_init 40 = .ok (.putfield 25, 3) := by decide +kernel
theorem dX1_init_43 : decode cX1_init 43 = .ok (.return_, 1) := by decide +kernel
def qw_X1 (cI cZ cA : ClassId) (h : Nat) (a : Nat → Nat) : va_W := [(h, .inr (1, [.int 0, .int 0, .int 0, .ref (a 0), .ref (a 1), .ref (a 2), .ref (a 3), .ref (a 4)])), (a 0, qc_f cI 3 (fun _ => 0)), (a 1, qc_f cI 3 (fun _ => 0)), (a 2, qc_f cI 3 (fun _ => 0)), (a 3, qc_f cZ 1024 (fun _ => 0)), (a 4, qc_f cZ 1024 (fun _ => 0))]
set_option maxHeartbeats 4000000 in
set_option maxRecDepth 100000 in
theorem cb_X1 (l : Launch) (D : va_G) (cI cZ cA : ClassId) (h0 sz : Nat) : Met l yX1_init (.code yX1_init cX1_init 1 none :: wsL_law) ({ frames := 1, cells := 5, slots := 2057, locals := 40 }) (va_Pc [.ref h0] (qb_Pc D cI cZ cA [(h0, .inr (1, [.int 0, .int 0, .int 0, .null, .null, .null, .null, .null]))] sz)) (va_Qv (fun _ : Nat → Nat => True) (fun a t => va_P D vwCl (qw_X1 cI cZ cA h0 a) t.heap ∧ va_D (va_A [(h0, .inr (1, [.int 0, .int 0, .int 0, .null, .null, .null, .null, .null]))] sz) (qw_X1 cI cZ cA h0 a)) (va_A [(h0, .inr (1, [.int 0, .int 0, .int 0, .null, .null, .null, .null, .null]))] sz)) 5 2057 (va_A [(h0, .inr (1, [.int 0, .int 0, .int 0, .null, .null, .null, .null, .null]))] sz) := by
  refine Met.ofW (cc := cX1_init) (maxL := 1) (ret := none) (by decide) rfl ?_
  intro p e s m args below meth c s₁ B hml hv
  obtain ⟨rfl, hsz, hP, hK, hD0, hAA, hBW⟩ := hv
  have hx := B.exec
  have hb := B.bytes
  have hr := B.returns
  have hts0 := atoms_spec (ws := .code yX1_init cX1_init 1 none :: wsL_law) B.pre
  have hts : ∀ w ∈ wsL_law, w.before ([Value.ref h0] : List Value).toArray s = true := fun w hw => hts0 w (List.mem_cons_of_mem _ hw)
  have hown : s.vm.findClass RX1 = some m.cls := findClass_of_methodNamed B.named
  have hlocks := B.notSynchronized
  have hin : meth.name = "<init>" := (name_of_methodNamed B.named B.method).1
  subst hsz
  have hD := hD0.self (sz := s.heap.size)
  generalize hAe : va_A [(h0, .inr (1, [.int 0, .int 0, .int 0, .null, .null, .null, .null, .null]))] s.heap.size = A at hD ⊢
  have hA : ∀ q : Nat, s.heap.size ≤ q → A q := fun q h => by rw [← hAe]; exact Or.inr h
  have hS : va_S A s.heap s.heap [] := va_S.rf
  have hP : va_P D vwCl [(h0, .inr (1, [.int 0, .int 0, .int 0, .null, .null, .null, .null, .null]))] s.heap := hP
  have hl := lv_entry ([.ref h0]) (n := 1) (Nat.le_of_ble_eq_true rfl)
  rw [lg_entry_eq]
  generalize (lg_sl ([.ref h0]) ++ List.replicate (1 - (lg_sl ([.ref h0])).length) Slot.unset).toArray = ls at hl ⊢
  have hl : lv_has ls 1 [(0, .ref h0)] := hl
  refine lv_aload_n hx hb dX1_init_0 rfl (lv_at hl 0 rfl) ?_
  refine W.objInit hx hb hown (hts (.methodLink RX1 3 objectInit) cm_46) (hts (.instanceMethod objectInit) cm_10) (hts (.code objectInit ⟨#[0xb1]⟩ 1 none) cm_11) rfl (by rw [hml]; exact hl.1) rfl dX1_init_1 (Nat.le_of_ble_eq_true rfl) (Nat.le_of_ble_eq_true rfl) ?_
  refine W.eq (g2 := F0 m 4 ls []) rfl ?_
  refine lv_aload_n hx hb dX1_init_4 rfl (lv_at hl 0 rfl) ?_
  refine lv_iconst (v := 3) hx hb dX1_init_5 (by decide) ?_
  refine qb_newa (atype := .int) (ty := .int) (N' := 3) (a0 := (3, .inl (fun _ => 0))) hx hb (hts (.arrayClass .int) cm_32) rfl hK hP hD hS hA 0 rfl (fun _ => rfl) (by decide) (by decide) (Nat.le_of_ble_eq_true rfl) (Nat.le_of_ble_eq_true rfl) (Nat.le_of_ble_eq_true rfl) dX1_init_6 (fun q6 H hP hD hS => ?_)
  have hP : va_P D vwCl [(h0, .inr (1, [.int 0, .int 0, .int 0, .null, .null, .null, .null, .null])), (q6, qc_f cI 3 (fun _ => 0))] H := hP
  have hD : va_D A [(h0, .inr (1, [.int 0, .int 0, .int 0, .null, .null, .null, .null, .null])), (q6, qc_f cI 3 (fun _ => 0))] := hD
  refine W.widen (k := 1) (n := 3) (by omega) (by omega) ?_
  refine va_putF (D := D) (ci := 1) (v := .ref q6) (ty := .array .int) (C := RX1) (T := TX1) (N := 8) hx hb hts inlX1 tyX1 tyX1_ok nmX1 hown hK hP hD hS 0 rfl rfl 3 (by decide) (hts (.fieldLink RX1 9 "QuestionLadder$FitSets" "texts" "[I") cm_47) (fun _ h9 => h9) rfl hin rfl (by decide +kernel) rfl rfl (Nat.le_of_ble_eq_true rfl) dX1_init_8 (fun H locs hP hD hS => ?_)
  have hP : va_P D vwCl [(h0, .inr (1, [.int 0, .int 0, .int 0, .ref q6, .null, .null, .null, .null])), (q6, qc_f cI 3 (fun _ => 0))] H := hP
  have hD : va_D A [(h0, .inr (1, [.int 0, .int 0, .int 0, .ref q6, .null, .null, .null, .null])), (q6, qc_f cI 3 (fun _ => 0))] := hD
  refine lv_aload_n hx hb dX1_init_11 rfl (lv_at hl 0 rfl) ?_
  refine lv_iconst (v := 3) hx hb dX1_init_12 (by decide) ?_
  refine qb_newa (atype := .int) (ty := .int) (N' := 3) (a0 := (3, .inl (fun _ => 0))) hx hb (hts (.arrayClass .int) cm_32) rfl hK hP hD hS hA 0 rfl (fun _ => rfl) (by decide) (by decide) (Nat.le_of_ble_eq_true rfl) (Nat.le_of_ble_eq_true rfl) (Nat.le_of_ble_eq_true rfl) dX1_init_13 (fun q13 H hP hD hS => ?_)
  have hP : va_P D vwCl [(h0, .inr (1, [.int 0, .int 0, .int 0, .ref q6, .null, .null, .null, .null])), (q6, qc_f cI 3 (fun _ => 0)), (q13, qc_f cI 3 (fun _ => 0))] H := hP
  have hD : va_D A [(h0, .inr (1, [.int 0, .int 0, .int 0, .ref q6, .null, .null, .null, .null])), (q6, qc_f cI 3 (fun _ => 0)), (q13, qc_f cI 3 (fun _ => 0))] := hD
  refine W.widen (k := 2) (n := 6) (by omega) (by omega) ?_
  refine va_putF (D := D) (ci := 1) (v := .ref q13) (ty := .array .int) (C := RX1) (T := TX1) (N := 8) hx hb hts inlX1 tyX1 tyX1_ok nmX1 hown hK hP hD hS 0 rfl rfl 4 (by decide) (hts (.fieldLink RX1 15 "QuestionLadder$FitSets" "foes" "[I") cm_48) (fun _ h9 => h9) rfl hin rfl (by decide +kernel) rfl rfl (Nat.le_of_ble_eq_true rfl) dX1_init_15 (fun H locs hP hD hS => ?_)
  have hP : va_P D vwCl [(h0, .inr (1, [.int 0, .int 0, .int 0, .ref q6, .ref q13, .null, .null, .null])), (q6, qc_f cI 3 (fun _ => 0)), (q13, qc_f cI 3 (fun _ => 0))] H := hP
  have hD : va_D A [(h0, .inr (1, [.int 0, .int 0, .int 0, .ref q6, .ref q13, .null, .null, .null])), (q6, qc_f cI 3 (fun _ => 0)), (q13, qc_f cI 3 (fun _ => 0))] := hD
  refine lv_aload_n hx hb dX1_init_18 rfl (lv_at hl 0 rfl) ?_
  refine lv_iconst (v := 3) hx hb dX1_init_19 (by decide) ?_
  refine qb_newa (atype := .int) (ty := .int) (N' := 3) (a0 := (3, .inl (fun _ => 0))) hx hb (hts (.arrayClass .int) cm_32) rfl hK hP hD hS hA 0 rfl (fun _ => rfl) (by decide) (by decide) (Nat.le_of_ble_eq_true rfl) (Nat.le_of_ble_eq_true rfl) (Nat.le_of_ble_eq_true rfl) dX1_init_20 (fun q20 H hP hD hS => ?_)
  have hP : va_P D vwCl [(h0, .inr (1, [.int 0, .int 0, .int 0, .ref q6, .ref q13, .null, .null, .null])), (q6, qc_f cI 3 (fun _ => 0)), (q13, qc_f cI 3 (fun _ => 0)), (q20, qc_f cI 3 (fun _ => 0))] H := hP
  have hD : va_D A [(h0, .inr (1, [.int 0, .int 0, .int 0, .ref q6, .ref q13, .null, .null, .null])), (q6, qc_f cI 3 (fun _ => 0)), (q13, qc_f cI 3 (fun _ => 0)), (q20, qc_f cI 3 (fun _ => 0))] := hD
  refine W.widen (k := 3) (n := 9) (by omega) (by omega) ?_
  refine va_putF (D := D) (ci := 1) (v := .ref q20) (ty := .array .int) (C := RX1) (T := TX1) (N := 8) hx hb hts inlX1 tyX1 tyX1_ok nmX1 hown hK hP hD hS 0 rfl rfl 5 (by decide) (hts (.fieldLink RX1 18 "QuestionLadder$FitSets" "contents" "[I") cm_49) (fun _ h9 => h9) rfl hin rfl (by decide +kernel) rfl rfl (Nat.le_of_ble_eq_true rfl) dX1_init_22 (fun H locs hP hD hS => ?_)
  have hP : va_P D vwCl [(h0, .inr (1, [.int 0, .int 0, .int 0, .ref q6, .ref q13, .ref q20, .null, .null])), (q6, qc_f cI 3 (fun _ => 0)), (q13, qc_f cI 3 (fun _ => 0)), (q20, qc_f cI 3 (fun _ => 0))] H := hP
  have hD : va_D A [(h0, .inr (1, [.int 0, .int 0, .int 0, .ref q6, .ref q13, .ref q20, .null, .null])), (q6, qc_f cI 3 (fun _ => 0)), (q13, qc_f cI 3 (fun _ => 0)), (q20, qc_f cI 3 (fun _ => 0))] := hD
  refine lv_aload_n hx hb dX1_init_25 rfl (lv_at hl 0 rfl) ?_
  refine lv_sipush (v := 1024) hx hb dX1_init_26 (by decide) ?_
  refine qb_newa (atype := .boolean) (ty := .boolean) (N' := 1024) (a0 := (1024, .inl (fun _ => 0))) hx hb (hts (.arrayClass .boolean) cm_50) rfl hK hP hD hS hA 1 rfl (fun _ => rfl) (by decide) (by decide) (Nat.le_of_ble_eq_true rfl) (Nat.le_of_ble_eq_true rfl) (Nat.le_of_ble_eq_true rfl) dX1_init_29 (fun q29 H hP hD hS => ?_)
  have hP : va_P D vwCl [(h0, .inr (1, [.int 0, .int 0, .int 0, .ref q6, .ref q13, .ref q20, .null, .null])), (q6, qc_f cI 3 (fun _ => 0)), (q13, qc_f cI 3 (fun _ => 0)), (q20, qc_f cI 3 (fun _ => 0)), (q29, qc_f cZ 1024 (fun _ => 0))] H := hP
  have hD : va_D A [(h0, .inr (1, [.int 0, .int 0, .int 0, .ref q6, .ref q13, .ref q20, .null, .null])), (q6, qc_f cI 3 (fun _ => 0)), (q13, qc_f cI 3 (fun _ => 0)), (q20, qc_f cI 3 (fun _ => 0)), (q29, qc_f cZ 1024 (fun _ => 0))] := hD
  refine W.widen (k := 4) (n := 1033) (by omega) (by omega) ?_
  refine va_putF (D := D) (ci := 1) (v := .ref q29) (ty := .array .boolean) (C := RX1) (T := TX1) (N := 8) hx hb hts inlX1 tyX1 tyX1_ok nmX1 hown hK hP hD hS 0 rfl rfl 6 (by decide) (hts (.fieldLink RX1 21 "QuestionLadder$FitSets" "fits" "[Z") cm_51) (fun _ h9 => h9) rfl hin rfl (by decide +kernel) rfl rfl (Nat.le_of_ble_eq_true rfl) dX1_init_31 (fun H locs hP hD hS => ?_)
  have hP : va_P D vwCl [(h0, .inr (1, [.int 0, .int 0, .int 0, .ref q6, .ref q13, .ref q20, .ref q29, .null])), (q6, qc_f cI 3 (fun _ => 0)), (q13, qc_f cI 3 (fun _ => 0)), (q20, qc_f cI 3 (fun _ => 0)), (q29, qc_f cZ 1024 (fun _ => 0))] H := hP
  have hD : va_D A [(h0, .inr (1, [.int 0, .int 0, .int 0, .ref q6, .ref q13, .ref q20, .ref q29, .null])), (q6, qc_f cI 3 (fun _ => 0)), (q13, qc_f cI 3 (fun _ => 0)), (q20, qc_f cI 3 (fun _ => 0)), (q29, qc_f cZ 1024 (fun _ => 0))] := hD
  refine lv_aload_n hx hb dX1_init_34 rfl (lv_at hl 0 rfl) ?_
  refine lv_sipush (v := 1024) hx hb dX1_init_35 (by decide) ?_
  refine qb_newa (atype := .boolean) (ty := .boolean) (N' := 1024) (a0 := (1024, .inl (fun _ => 0))) hx hb (hts (.arrayClass .boolean) cm_50) rfl hK hP hD hS hA 1 rfl (fun _ => rfl) (by decide) (by decide) (Nat.le_of_ble_eq_true rfl) (Nat.le_of_ble_eq_true rfl) (Nat.le_of_ble_eq_true rfl) dX1_init_38 (fun q38 H hP hD hS => ?_)
  have hP : va_P D vwCl [(h0, .inr (1, [.int 0, .int 0, .int 0, .ref q6, .ref q13, .ref q20, .ref q29, .null])), (q6, qc_f cI 3 (fun _ => 0)), (q13, qc_f cI 3 (fun _ => 0)), (q20, qc_f cI 3 (fun _ => 0)), (q29, qc_f cZ 1024 (fun _ => 0)), (q38, qc_f cZ 1024 (fun _ => 0))] H := hP
  have hD : va_D A [(h0, .inr (1, [.int 0, .int 0, .int 0, .ref q6, .ref q13, .ref q20, .ref q29, .null])), (q6, qc_f cI 3 (fun _ => 0)), (q13, qc_f cI 3 (fun _ => 0)), (q20, qc_f cI 3 (fun _ => 0)), (q29, qc_f cZ 1024 (fun _ => 0)), (q38, qc_f cZ 1024 (fun _ => 0))] := hD
  refine W.widen (k := 5) (n := 2057) (by omega) (by omega) ?_
  refine va_putF (D := D) (ci := 1) (v := .ref q38) (ty := .array .boolean) (C := RX1) (T := TX1) (N := 8) hx hb hts inlX1 tyX1 tyX1_ok nmX1 hown hK hP hD hS 0 rfl rfl 7 (by decide) (hts (.fieldLink RX1 25 "QuestionLadder$FitSets" "partOfFit" "[Z") cm_52) (fun _ h9 => h9) rfl hin rfl (by decide +kernel) rfl rfl (Nat.le_of_ble_eq_true rfl) dX1_init_40 (fun H locs hP hD hS => ?_)
  have hP : va_P D vwCl [(h0, .inr (1, [.int 0, .int 0, .int 0, .ref q6, .ref q13, .ref q20, .ref q29, .ref q38])), (q6, qc_f cI 3 (fun _ => 0)), (q13, qc_f cI 3 (fun _ => 0)), (q20, qc_f cI 3 (fun _ => 0)), (q29, qc_f cZ 1024 (fun _ => 0)), (q38, qc_f cZ 1024 (fun _ => 0))] H := hP
  have hD : va_D A [(h0, .inr (1, [.int 0, .int 0, .int 0, .ref q6, .ref q13, .ref q20, .ref q29, .ref q38])), (q6, qc_f cI 3 (fun _ => 0)), (q13, qc_f cI 3 (fun _ => 0)), (q20, qc_f cI 3 (fun _ => 0)), (q29, qc_f cZ 1024 (fun _ => 0)), (q38, qc_f cZ 1024 (fun _ => 0))] := hD
  exact W.vret hx hb hr (fun t ht hW => ⟨⟨fun i => ([q6, q13, q20, q29, q38] : List Nat).getD i 0, rfl, trivial, by rw [ht]; exact hP, hD⟩, hS.F ht⟩) hS.2.2 dX1_init_43
theorem dX2_init_0 : decode cX2_init 0 = .ok (.aload_n 0, 1) := by decide +kernel
theorem dX2_init_1 : decode cX2_init 1 = .ok (.invokespecial 3, 3) := by decide +kernel
theorem dX2_init_4 : decode cX2_init 4 = .ok (.aload_n 0, 1) := by decide +kernel
theorem dX2_init_5 : decode cX2_init 5 = .ok (.iconst 4, 1) := by decide +kernel
theorem dX2_init_6 : decode cX2_init 6 = .ok (.putfield 9, 3) := by decide +kernel
theorem dX2_init_9 : decode cX2_init 9 = .ok (.aload_n 0, 1) := by decide +kernel
theorem dX2_init_10 : decode cX2_init 10 = .ok (.bipush 9, 2) := by decide +kernel
theorem dX2_init_12 : decode cX2_init 12 = .ok (.putfield 15, 3) := by decide +kernel
theorem dX2_init_15 : decode cX2_init 15 = .ok (.aload_n 0, 1) := by decide +kernel
theorem dX2_init_16 : decode cX2_init 16 = .ok (.bipush 10, 2) := by decide +kernel
theorem dX2_init_18 : decode cX2_init 18 = .ok (.putfield 18, 3) := by decide +kernel
theorem dX2_init_21 : decode cX2_init 21 = .ok (.aload_n 0, 1) := by decide +kernel
theorem dX2_init_22 : decode cX2_init 22 = .ok (.iconst 3, 1) := by decide +kernel
theorem dX2_init_23 : decode cX2_init 23 = .ok (.newarray .int, 2) := by decide +kernel
theorem dX2_init_25 : decode cX2_init 25 = .ok (.putfield 21, 3) := by decide +kernel
theorem dX2_init_28 : decode cX2_init 28 = .ok (.aload_n 0, 1) := by decide +kernel
theorem dX2_init_29 : decode cX2_init 29 = .ok (.iconst 3, 1) := by decide +kernel
theorem dX2_init_30 : decode cX2_init 30 = .ok (.newarray .int, 2) := by decide +kernel
theorem dX2_init_32 : decode cX2_init 32 = .ok (.putfield 25, 3) := by decide +kernel
theorem dX2_init_35 : decode cX2_init 35 = .ok (.aload_n 0, 1) := by decide +kernel
theorem dX2_init_36 : decode cX2_init 36 = .ok (.bipush 6, 2) := by decide +kernel
theorem dX2_init_38 : decode cX2_init 38 = .ok (.newarray .int, 2) := by decide +kernel
theorem dX2_init_40 : decode cX2_init 40 = .ok (.putfield 28, 3) := by decide +kernel
theorem dX2_init_43 : decode cX2_init 43 = .ok (.iconst 0, 1) := by decide +kernel
theorem dX2_init_44 : decode cX2_init 44 = .ok (.istore_n 1, 1) := by decide +kernel
theorem dX2_init_45 : decode cX2_init 45 = .ok (.iload_n 1, 1) := by decide +kernel
theorem dX2_init_46 : decode cX2_init 46 = .ok (.iconst 3, 1) := by decide +kernel
theorem dX2_init_47 : decode cX2_init 47 = .ok (.if_icmp .ge 17, 3) := by decide +kernel
theorem dX2_init_50 : decode cX2_init 50 = .ok (.aload_n 0, 1) := by decide +kernel
theorem dX2_init_51 : decode cX2_init 51 = .ok (.getfield 25, 3) := by decide +kernel
theorem dX2_init_54 : decode cX2_init 54 = .ok (.iload_n 1, 1) := by decide +kernel
theorem dX2_init_55 : decode cX2_init 55 = .ok (.bipush 6, 2) := by decide +kernel
theorem dX2_init_57 : decode cX2_init 57 = .ok (.iastore, 1) := by decide +kernel
theorem dX2_init_58 : decode cX2_init 58 = .ok (.iinc 1 1, 3) := by decide +kernel
theorem dX2_init_61 : decode cX2_init 61 = .ok (.goto (-16), 3) := by decide +kernel
theorem dX2_init_64 : decode cX2_init 64 = .ok (.iconst 0, 1) := by decide +kernel
theorem dX2_init_65 : decode cX2_init 65 = .ok (.istore_n 1, 1) := by decide +kernel
theorem dX2_init_66 : decode cX2_init 66 = .ok (.iload_n 1, 1) := by decide +kernel
theorem dX2_init_67 : decode cX2_init 67 = .ok (.bipush 6, 2) := by decide +kernel
theorem dX2_init_69 : decode cX2_init 69 = .ok (.if_icmp .ge 16, 3) := by decide +kernel
theorem dX2_init_72 : decode cX2_init 72 = .ok (.aload_n 0, 1) := by decide +kernel
theorem dX2_init_73 : decode cX2_init 73 = .ok (.getfield 28, 3) := by decide +kernel
theorem dX2_init_76 : decode cX2_init 76 = .ok (.iload_n 1, 1) := by decide +kernel
theorem dX2_init_77 : decode cX2_init 77 = .ok (.iconst 1, 1) := by decide +kernel
theorem dX2_init_78 : decode cX2_init 78 = .ok (.iastore, 1) := by decide +kernel
theorem dX2_init_79 : decode cX2_init 79 = .ok (.iinc 1 1, 3) := by decide +kernel
theorem dX2_init_82 : decode cX2_init 82 = .ok (.goto (-16), 3) := by decide +kernel
theorem dX2_init_85 : decode cX2_init 85 = .ok (.return_, 1) := by decide +kernel
def qw_X2 (cI cZ cA : ClassId) (h : Nat) (a : Nat → Nat) : va_W := [(h, .inr (2, [.int 4, .int 9, .int 10, .ref (a 0), .ref (a 1), .ref (a 2)])), (a 0, qc_f cI 3 (fun _ => 0)), (a 1, qc_f cI 3 (upd (upd (upd (fun _ => 0) 0 6) 1 6) 2 6)), (a 2, qc_f cI 6 (upd (upd (upd (upd (upd (upd (fun _ => 0) 0 1) 1 1) 2 1) 3 1) 4 1) 5 1))]
set_option maxHeartbeats 4000000 in
set_option maxRecDepth 100000 in
theorem cb_X2 (l : Launch) (D : va_G) (cI cZ cA : ClassId) (h0 sz : Nat) : Met l yX2_init (.code yX2_init cX2_init 2 none :: wsL_law) ({ frames := 1, cells := 3, slots := 12, locals := 40 }) (va_Pc [.ref h0] (qb_Pc D cI cZ cA [(h0, .inr (2, [.int 0, .int 0, .int 0, .null, .null, .null]))] sz)) (va_Qv (fun _ : Nat → Nat => True) (fun a t => va_P D vwCl (qw_X2 cI cZ cA h0 a) t.heap ∧ va_D (va_A [(h0, .inr (2, [.int 0, .int 0, .int 0, .null, .null, .null]))] sz) (qw_X2 cI cZ cA h0 a)) (va_A [(h0, .inr (2, [.int 0, .int 0, .int 0, .null, .null, .null]))] sz)) 3 12 (va_A [(h0, .inr (2, [.int 0, .int 0, .int 0, .null, .null, .null]))] sz) := by
  refine Met.ofW (cc := cX2_init) (maxL := 2) (ret := none) (by decide) rfl ?_
  intro p e s m args below meth c s₁ B hml hv
  obtain ⟨rfl, hsz, hP, hK, hD0, hAA, hBW⟩ := hv
  have hx := B.exec
  have hb := B.bytes
  have hr := B.returns
  have hts0 := atoms_spec (ws := .code yX2_init cX2_init 2 none :: wsL_law) B.pre
  have hts : ∀ w ∈ wsL_law, w.before ([Value.ref h0] : List Value).toArray s = true := fun w hw => hts0 w (List.mem_cons_of_mem _ hw)
  have hown : s.vm.findClass RX2 = some m.cls := findClass_of_methodNamed B.named
  have hlocks := B.notSynchronized
  have hin : meth.name = "<init>" := (name_of_methodNamed B.named B.method).1
  subst hsz
  have hD := hD0.self (sz := s.heap.size)
  generalize hAe : va_A [(h0, .inr (2, [.int 0, .int 0, .int 0, .null, .null, .null]))] s.heap.size = A at hD ⊢
  have hA : ∀ q : Nat, s.heap.size ≤ q → A q := fun q h => by rw [← hAe]; exact Or.inr h
  have hS : va_S A s.heap s.heap [] := va_S.rf
  have hP : va_P D vwCl [(h0, .inr (2, [.int 0, .int 0, .int 0, .null, .null, .null]))] s.heap := hP
  have hl := lv_entry ([.ref h0]) (n := 2) (Nat.le_of_ble_eq_true rfl)
  rw [lg_entry_eq]
  generalize (lg_sl ([.ref h0]) ++ List.replicate (2 - (lg_sl ([.ref h0])).length) Slot.unset).toArray = ls at hl ⊢
  have hl : lv_has ls 2 [(0, .ref h0)] := hl
  refine lv_aload_n hx hb dX2_init_0 rfl (lv_at hl 0 rfl) ?_
  refine W.objInit hx hb hown (hts (.methodLink RX2 3 objectInit) cm_37) (hts (.instanceMethod objectInit) cm_10) (hts (.code objectInit ⟨#[0xb1]⟩ 1 none) cm_11) rfl (by rw [hml]; exact hl.1) rfl dX2_init_1 (Nat.le_of_ble_eq_true rfl) (Nat.le_of_ble_eq_true rfl) ?_
  refine W.eq (g2 := F0 m 4 ls []) rfl ?_
  refine lv_aload_n hx hb dX2_init_4 rfl (lv_at hl 0 rfl) ?_
  refine lv_iconst (v := 4) hx hb dX2_init_5 (by decide) ?_
  refine va_put (D := D) (ci := 2) (v := .int 4) (ty := .int) (C := RX2) (T := TX2) (N := 6) hx hb hts inlX2 tyX2 tyX2_ok nmX2 hown hK hP hD hS 0 rfl rfl 0 (by decide) (hts (.fieldLink RX2 9 "QuestionLadder$Rules" "most" "I") cm_38) (fun _ h9 => h9) rfl (by decide +kernel) rfl rfl (Nat.le_of_ble_eq_true rfl) dX2_init_6 (fun H locs hP hD hS => ?_)
  have hP : va_P D vwCl [(h0, .inr (2, [.int 4, .int 0, .int 0, .null, .null, .null]))] H := hP
  have hD : va_D A [(h0, .inr (2, [.int 4, .int 0, .int 0, .null, .null, .null]))] := hD
  refine lv_aload_n hx hb dX2_init_9 rfl (lv_at hl 0 rfl) ?_
  refine lv_bipush (v := 9) hx hb dX2_init_10 (by decide) ?_
  refine va_put (D := D) (ci := 2) (v := .int 9) (ty := .int) (C := RX2) (T := TX2) (N := 6) hx hb hts inlX2 tyX2 tyX2_ok nmX2 hown hK hP hD hS 0 rfl rfl 1 (by decide) (hts (.fieldLink RX2 15 "QuestionLadder$Rules" "sureOf" "I") cm_39) (fun _ h9 => h9) rfl (by decide +kernel) rfl rfl (Nat.le_of_ble_eq_true rfl) dX2_init_12 (fun H locs hP hD hS => ?_)
  have hP : va_P D vwCl [(h0, .inr (2, [.int 4, .int 9, .int 0, .null, .null, .null]))] H := hP
  have hD : va_D A [(h0, .inr (2, [.int 4, .int 9, .int 0, .null, .null, .null]))] := hD
  refine lv_aload_n hx hb dX2_init_15 rfl (lv_at hl 0 rfl) ?_
  refine lv_bipush (v := 10) hx hb dX2_init_16 (by decide) ?_
  refine va_put (D := D) (ci := 2) (v := .int 10) (ty := .int) (C := RX2) (T := TX2) (N := 6) hx hb hts inlX2 tyX2 tyX2_ok nmX2 hown hK hP hD hS 0 rfl rfl 2 (by decide) (hts (.fieldLink RX2 18 "QuestionLadder$Rules" "sureIn" "I") cm_40) (fun _ h9 => h9) rfl (by decide +kernel) rfl rfl (Nat.le_of_ble_eq_true rfl) dX2_init_18 (fun H locs hP hD hS => ?_)
  have hP : va_P D vwCl [(h0, .inr (2, [.int 4, .int 9, .int 10, .null, .null, .null]))] H := hP
  have hD : va_D A [(h0, .inr (2, [.int 4, .int 9, .int 10, .null, .null, .null]))] := hD
  refine lv_aload_n hx hb dX2_init_21 rfl (lv_at hl 0 rfl) ?_
  refine lv_iconst (v := 3) hx hb dX2_init_22 (by decide) ?_
  refine qb_newa (atype := .int) (ty := .int) (N' := 3) (a0 := (3, .inl (fun _ => 0))) hx hb (hts (.arrayClass .int) cm_32) rfl hK hP hD hS hA 0 rfl (fun _ => rfl) (by decide) (by decide) (Nat.le_of_ble_eq_true rfl) (Nat.le_of_ble_eq_true rfl) (Nat.le_of_ble_eq_true rfl) dX2_init_23 (fun q23 H hP hD hS => ?_)
  have hP : va_P D vwCl [(h0, .inr (2, [.int 4, .int 9, .int 10, .null, .null, .null])), (q23, qc_f cI 3 (fun _ => 0))] H := hP
  have hD : va_D A [(h0, .inr (2, [.int 4, .int 9, .int 10, .null, .null, .null])), (q23, qc_f cI 3 (fun _ => 0))] := hD
  refine W.widen (k := 1) (n := 3) (by omega) (by omega) ?_
  refine va_putF (D := D) (ci := 2) (v := .ref q23) (ty := .array .int) (C := RX2) (T := TX2) (N := 6) hx hb hts inlX2 tyX2 tyX2_ok nmX2 hown hK hP hD hS 0 rfl rfl 3 (by decide) (hts (.fieldLink RX2 21 "QuestionLadder$Rules" "lows" "[I") cm_41) (fun _ h9 => h9) rfl hin rfl (by decide +kernel) rfl rfl (Nat.le_of_ble_eq_true rfl) dX2_init_25 (fun H locs hP hD hS => ?_)
  have hP : va_P D vwCl [(h0, .inr (2, [.int 4, .int 9, .int 10, .ref q23, .null, .null])), (q23, qc_f cI 3 (fun _ => 0))] H := hP
  have hD : va_D A [(h0, .inr (2, [.int 4, .int 9, .int 10, .ref q23, .null, .null])), (q23, qc_f cI 3 (fun _ => 0))] := hD
  refine lv_aload_n hx hb dX2_init_28 rfl (lv_at hl 0 rfl) ?_
  refine lv_iconst (v := 3) hx hb dX2_init_29 (by decide) ?_
  refine qb_newa (atype := .int) (ty := .int) (N' := 3) (a0 := (3, .inl (fun _ => 0))) hx hb (hts (.arrayClass .int) cm_32) rfl hK hP hD hS hA 0 rfl (fun _ => rfl) (by decide) (by decide) (Nat.le_of_ble_eq_true rfl) (Nat.le_of_ble_eq_true rfl) (Nat.le_of_ble_eq_true rfl) dX2_init_30 (fun q30 H hP hD hS => ?_)
  have hP : va_P D vwCl [(h0, .inr (2, [.int 4, .int 9, .int 10, .ref q23, .null, .null])), (q23, qc_f cI 3 (fun _ => 0)), (q30, qc_f cI 3 (fun _ => 0))] H := hP
  have hD : va_D A [(h0, .inr (2, [.int 4, .int 9, .int 10, .ref q23, .null, .null])), (q23, qc_f cI 3 (fun _ => 0)), (q30, qc_f cI 3 (fun _ => 0))] := hD
  refine W.widen (k := 2) (n := 6) (by omega) (by omega) ?_
  refine va_putF (D := D) (ci := 2) (v := .ref q30) (ty := .array .int) (C := RX2) (T := TX2) (N := 6) hx hb hts inlX2 tyX2 tyX2_ok nmX2 hown hK hP hD hS 0 rfl rfl 4 (by decide) (hts (.fieldLink RX2 25 "QuestionLadder$Rules" "highs" "[I") cm_42) (fun _ h9 => h9) rfl hin rfl (by decide +kernel) rfl rfl (Nat.le_of_ble_eq_true rfl) dX2_init_32 (fun H locs hP hD hS => ?_)
  have hP : va_P D vwCl [(h0, .inr (2, [.int 4, .int 9, .int 10, .ref q23, .ref q30, .null])), (q23, qc_f cI 3 (fun _ => 0)), (q30, qc_f cI 3 (fun _ => 0))] H := hP
  have hD : va_D A [(h0, .inr (2, [.int 4, .int 9, .int 10, .ref q23, .ref q30, .null])), (q23, qc_f cI 3 (fun _ => 0)), (q30, qc_f cI 3 (fun _ => 0))] := hD
  refine lv_aload_n hx hb dX2_init_35 rfl (lv_at hl 0 rfl) ?_
  refine lv_bipush (v := 6) hx hb dX2_init_36 (by decide) ?_
  refine qb_newa (atype := .int) (ty := .int) (N' := 6) (a0 := (6, .inl (fun _ => 0))) hx hb (hts (.arrayClass .int) cm_32) rfl hK hP hD hS hA 0 rfl (fun _ => rfl) (by decide) (by decide) (Nat.le_of_ble_eq_true rfl) (Nat.le_of_ble_eq_true rfl) (Nat.le_of_ble_eq_true rfl) dX2_init_38 (fun q38 H hP hD hS => ?_)
  have hP : va_P D vwCl [(h0, .inr (2, [.int 4, .int 9, .int 10, .ref q23, .ref q30, .null])), (q23, qc_f cI 3 (fun _ => 0)), (q30, qc_f cI 3 (fun _ => 0)), (q38, qc_f cI 6 (fun _ => 0))] H := hP
  have hD : va_D A [(h0, .inr (2, [.int 4, .int 9, .int 10, .ref q23, .ref q30, .null])), (q23, qc_f cI 3 (fun _ => 0)), (q30, qc_f cI 3 (fun _ => 0)), (q38, qc_f cI 6 (fun _ => 0))] := hD
  refine W.widen (k := 3) (n := 12) (by omega) (by omega) ?_
  refine va_putF (D := D) (ci := 2) (v := .ref q38) (ty := .array .int) (C := RX2) (T := TX2) (N := 6) hx hb hts inlX2 tyX2 tyX2_ok nmX2 hown hK hP hD hS 0 rfl rfl 5 (by decide) (hts (.fieldLink RX2 28 "QuestionLadder$Rules" "firstWeights" "[I") cm_43) (fun _ h9 => h9) rfl hin rfl (by decide +kernel) rfl rfl (Nat.le_of_ble_eq_true rfl) dX2_init_40 (fun H locs hP hD hS => ?_)
  have hP : va_P D vwCl [(h0, .inr (2, [.int 4, .int 9, .int 10, .ref q23, .ref q30, .ref q38])), (q23, qc_f cI 3 (fun _ => 0)), (q30, qc_f cI 3 (fun _ => 0)), (q38, qc_f cI 6 (fun _ => 0))] H := hP
  have hD : va_D A [(h0, .inr (2, [.int 4, .int 9, .int 10, .ref q23, .ref q30, .ref q38])), (q23, qc_f cI 3 (fun _ => 0)), (q30, qc_f cI 3 (fun _ => 0)), (q38, qc_f cI 6 (fun _ => 0))] := hD
  refine lv_iconst (v := 0) hx hb dX2_init_43 (by decide) ?_
  refine lv_istore_n (lv' := [(1, .int 0), (0, .ref h0)]) hx hb dX2_init_44 rfl hl (by decide) rfl (fun ls hl => ?_)
  refine lv_iload_n hx hb dX2_init_45 rfl (lv_at hl 0 rfl) ?_
  refine lv_iconst (v := 3) hx hb dX2_init_46 (by decide) ?_
  refine lv_icmp_ge (tgt := 64) hx hb dX2_init_47 (by decide) (fun z => absurd z (by decide)) (fun _ => ?_)
  refine lv_aload_n hx hb dX2_init_50 rfl (lv_at hl 1 rfl) ?_
  refine va_get (D := D) (ci := 2) (v := .ref q30) (C := RX2) (T := TX2) (N := 6) hx hb hts inlX2 hown hK hP 0 rfl rfl 4 (by decide) (hts (.fieldLink RX2 25 "QuestionLadder$Rules" "highs" "[I") cm_42) (fun _ h9 => h9) rfl dX2_init_51 ?_
  refine lv_iload_n hx hb dX2_init_54 rfl (lv_at hl 0 rfl) ?_
  refine lv_bipush (v := 6) hx hb dX2_init_55 (by decide) ?_
  refine va_iast (i := 0) (x := 6) hx hb hK hP hD hS 2 0 rfl rfl (show ¬ ((0 : Int32) < 0 ∨ 3 ≤ (0 : Int32).toNatClampNeg) by decide) dX2_init_57 (fun H locs hP hD hS => ?_)
  have hP : va_P D vwCl [(h0, .inr (2, [.int 4, .int 9, .int 10, .ref q23, .ref q30, .ref q38])), (q23, qc_f cI 3 (fun _ => 0)), (q30, qc_f cI 3 (upd (fun _ => 0) 0 6)), (q38, qc_f cI 6 (fun _ => 0))] H := hP
  have hD : va_D A [(h0, .inr (2, [.int 4, .int 9, .int 10, .ref q23, .ref q30, .ref q38])), (q23, qc_f cI 3 (fun _ => 0)), (q30, qc_f cI 3 (upd (fun _ => 0) 0 6)), (q38, qc_f cI 6 (fun _ => 0))] := hD
  refine lv_iinc (v := 1) (lv' := [(1, .int 1), (0, .ref h0)]) hx hb dX2_init_58 hl (k := 0) rfl (by decide) (by decide) rfl (fun ls hl => ?_)
  refine lv_goto (tgt := 45) hx hb dX2_init_61 (by decide) ?_
  refine lv_iload_n hx hb dX2_init_45 rfl (lv_at hl 0 rfl) ?_
  refine lv_iconst (v := 3) hx hb dX2_init_46 (by decide) ?_
  refine lv_icmp_ge (tgt := 64) hx hb dX2_init_47 (by decide) (fun z => absurd z (by decide)) (fun _ => ?_)
  refine lv_aload_n hx hb dX2_init_50 rfl (lv_at hl 1 rfl) ?_
  refine va_get (D := D) (ci := 2) (v := .ref q30) (C := RX2) (T := TX2) (N := 6) hx hb hts inlX2 hown hK hP 0 rfl rfl 4 (by decide) (hts (.fieldLink RX2 25 "QuestionLadder$Rules" "highs" "[I") cm_42) (fun _ h9 => h9) rfl dX2_init_51 ?_
  refine lv_iload_n hx hb dX2_init_54 rfl (lv_at hl 0 rfl) ?_
  refine lv_bipush (v := 6) hx hb dX2_init_55 (by decide) ?_
  refine va_iast (i := 1) (x := 6) hx hb hK hP hD hS 2 0 rfl rfl (show ¬ ((1 : Int32) < 0 ∨ 3 ≤ (1 : Int32).toNatClampNeg) by decide) dX2_init_57 (fun H locs hP hD hS => ?_)
  have hP : va_P D vwCl [(h0, .inr (2, [.int 4, .int 9, .int 10, .ref q23, .ref q30, .ref q38])), (q23, qc_f cI 3 (fun _ => 0)), (q30, qc_f cI 3 (upd (upd (fun _ => 0) 0 6) 1 6)), (q38, qc_f cI 6 (fun _ => 0))] H := hP
  have hD : va_D A [(h0, .inr (2, [.int 4, .int 9, .int 10, .ref q23, .ref q30, .ref q38])), (q23, qc_f cI 3 (fun _ => 0)), (q30, qc_f cI 3 (upd (upd (fun _ => 0) 0 6) 1 6)), (q38, qc_f cI 6 (fun _ => 0))] := hD
  refine lv_iinc (v := 2) (lv' := [(1, .int 2), (0, .ref h0)]) hx hb dX2_init_58 hl (k := 0) rfl (by decide) (by decide) rfl (fun ls hl => ?_)
  refine lv_goto (tgt := 45) hx hb dX2_init_61 (by decide) ?_
  refine lv_iload_n hx hb dX2_init_45 rfl (lv_at hl 0 rfl) ?_
  refine lv_iconst (v := 3) hx hb dX2_init_46 (by decide) ?_
  refine lv_icmp_ge (tgt := 64) hx hb dX2_init_47 (by decide) (fun z => absurd z (by decide)) (fun _ => ?_)
  refine lv_aload_n hx hb dX2_init_50 rfl (lv_at hl 1 rfl) ?_
  refine va_get (D := D) (ci := 2) (v := .ref q30) (C := RX2) (T := TX2) (N := 6) hx hb hts inlX2 hown hK hP 0 rfl rfl 4 (by decide) (hts (.fieldLink RX2 25 "QuestionLadder$Rules" "highs" "[I") cm_42) (fun _ h9 => h9) rfl dX2_init_51 ?_
  refine lv_iload_n hx hb dX2_init_54 rfl (lv_at hl 0 rfl) ?_
  refine lv_bipush (v := 6) hx hb dX2_init_55 (by decide) ?_
  refine va_iast (i := 2) (x := 6) hx hb hK hP hD hS 2 0 rfl rfl (show ¬ ((2 : Int32) < 0 ∨ 3 ≤ (2 : Int32).toNatClampNeg) by decide) dX2_init_57 (fun H locs hP hD hS => ?_)
  have hP : va_P D vwCl [(h0, .inr (2, [.int 4, .int 9, .int 10, .ref q23, .ref q30, .ref q38])), (q23, qc_f cI 3 (fun _ => 0)), (q30, qc_f cI 3 (upd (upd (upd (fun _ => 0) 0 6) 1 6) 2 6)), (q38, qc_f cI 6 (fun _ => 0))] H := hP
  have hD : va_D A [(h0, .inr (2, [.int 4, .int 9, .int 10, .ref q23, .ref q30, .ref q38])), (q23, qc_f cI 3 (fun _ => 0)), (q30, qc_f cI 3 (upd (upd (upd (fun _ => 0) 0 6) 1 6) 2 6)), (q38, qc_f cI 6 (fun _ => 0))] := hD
  refine lv_iinc (v := 3) (lv' := [(1, .int 3), (0, .ref h0)]) hx hb dX2_init_58 hl (k := 0) rfl (by decide) (by decide) rfl (fun ls hl => ?_)
  refine lv_goto (tgt := 45) hx hb dX2_init_61 (by decide) ?_
  refine lv_iload_n hx hb dX2_init_45 rfl (lv_at hl 0 rfl) ?_
  refine lv_iconst (v := 3) hx hb dX2_init_46 (by decide) ?_
  refine lv_icmp_ge (tgt := 64) hx hb dX2_init_47 (by decide) (fun _ => ?_) (fun z => absurd (by decide) z)
  refine lv_iconst (v := 0) hx hb dX2_init_64 (by decide) ?_
  refine lv_istore_n (lv' := [(1, .int 0), (0, .ref h0)]) hx hb dX2_init_65 rfl hl (by decide) rfl (fun ls hl => ?_)
  refine lv_iload_n hx hb dX2_init_66 rfl (lv_at hl 0 rfl) ?_
  refine lv_bipush (v := 6) hx hb dX2_init_67 (by decide) ?_
  refine lv_icmp_ge (tgt := 85) hx hb dX2_init_69 (by decide) (fun z => absurd z (by decide)) (fun _ => ?_)
  refine lv_aload_n hx hb dX2_init_72 rfl (lv_at hl 1 rfl) ?_
  refine va_get (D := D) (ci := 2) (v := .ref q38) (C := RX2) (T := TX2) (N := 6) hx hb hts inlX2 hown hK hP 0 rfl rfl 5 (by decide) (hts (.fieldLink RX2 28 "QuestionLadder$Rules" "firstWeights" "[I") cm_43) (fun _ h9 => h9) rfl dX2_init_73 ?_
  refine lv_iload_n hx hb dX2_init_76 rfl (lv_at hl 0 rfl) ?_
  refine lv_iconst (v := 1) hx hb dX2_init_77 (by decide) ?_
  refine va_iast (i := 0) (x := 1) hx hb hK hP hD hS 3 0 rfl rfl (show ¬ ((0 : Int32) < 0 ∨ 6 ≤ (0 : Int32).toNatClampNeg) by decide) dX2_init_78 (fun H locs hP hD hS => ?_)
  have hP : va_P D vwCl [(h0, .inr (2, [.int 4, .int 9, .int 10, .ref q23, .ref q30, .ref q38])), (q23, qc_f cI 3 (fun _ => 0)), (q30, qc_f cI 3 (upd (upd (upd (fun _ => 0) 0 6) 1 6) 2 6)), (q38, qc_f cI 6 (upd (fun _ => 0) 0 1))] H := hP
  have hD : va_D A [(h0, .inr (2, [.int 4, .int 9, .int 10, .ref q23, .ref q30, .ref q38])), (q23, qc_f cI 3 (fun _ => 0)), (q30, qc_f cI 3 (upd (upd (upd (fun _ => 0) 0 6) 1 6) 2 6)), (q38, qc_f cI 6 (upd (fun _ => 0) 0 1))] := hD
  refine lv_iinc (v := 1) (lv' := [(1, .int 1), (0, .ref h0)]) hx hb dX2_init_79 hl (k := 0) rfl (by decide) (by decide) rfl (fun ls hl => ?_)
  refine lv_goto (tgt := 66) hx hb dX2_init_82 (by decide) ?_
  refine lv_iload_n hx hb dX2_init_66 rfl (lv_at hl 0 rfl) ?_
  refine lv_bipush (v := 6) hx hb dX2_init_67 (by decide) ?_
  refine lv_icmp_ge (tgt := 85) hx hb dX2_init_69 (by decide) (fun z => absurd z (by decide)) (fun _ => ?_)
  refine lv_aload_n hx hb dX2_init_72 rfl (lv_at hl 1 rfl) ?_
  refine va_get (D := D) (ci := 2) (v := .ref q38) (C := RX2) (T := TX2) (N := 6) hx hb hts inlX2 hown hK hP 0 rfl rfl 5 (by decide) (hts (.fieldLink RX2 28 "QuestionLadder$Rules" "firstWeights" "[I") cm_43) (fun _ h9 => h9) rfl dX2_init_73 ?_
  refine lv_iload_n hx hb dX2_init_76 rfl (lv_at hl 0 rfl) ?_
  refine lv_iconst (v := 1) hx hb dX2_init_77 (by decide) ?_
  refine va_iast (i := 1) (x := 1) hx hb hK hP hD hS 3 0 rfl rfl (show ¬ ((1 : Int32) < 0 ∨ 6 ≤ (1 : Int32).toNatClampNeg) by decide) dX2_init_78 (fun H locs hP hD hS => ?_)
  have hP : va_P D vwCl [(h0, .inr (2, [.int 4, .int 9, .int 10, .ref q23, .ref q30, .ref q38])), (q23, qc_f cI 3 (fun _ => 0)), (q30, qc_f cI 3 (upd (upd (upd (fun _ => 0) 0 6) 1 6) 2 6)), (q38, qc_f cI 6 (upd (upd (fun _ => 0) 0 1) 1 1))] H := hP
  have hD : va_D A [(h0, .inr (2, [.int 4, .int 9, .int 10, .ref q23, .ref q30, .ref q38])), (q23, qc_f cI 3 (fun _ => 0)), (q30, qc_f cI 3 (upd (upd (upd (fun _ => 0) 0 6) 1 6) 2 6)), (q38, qc_f cI 6 (upd (upd (fun _ => 0) 0 1) 1 1))] := hD
  refine lv_iinc (v := 2) (lv' := [(1, .int 2), (0, .ref h0)]) hx hb dX2_init_79 hl (k := 0) rfl (by decide) (by decide) rfl (fun ls hl => ?_)
  refine lv_goto (tgt := 66) hx hb dX2_init_82 (by decide) ?_
  refine lv_iload_n hx hb dX2_init_66 rfl (lv_at hl 0 rfl) ?_
  refine lv_bipush (v := 6) hx hb dX2_init_67 (by decide) ?_
  refine lv_icmp_ge (tgt := 85) hx hb dX2_init_69 (by decide) (fun z => absurd z (by decide)) (fun _ => ?_)
  refine lv_aload_n hx hb dX2_init_72 rfl (lv_at hl 1 rfl) ?_
  refine va_get (D := D) (ci := 2) (v := .ref q38) (C := RX2) (T := TX2) (N := 6) hx hb hts inlX2 hown hK hP 0 rfl rfl 5 (by decide) (hts (.fieldLink RX2 28 "QuestionLadder$Rules" "firstWeights" "[I") cm_43) (fun _ h9 => h9) rfl dX2_init_73 ?_
  refine lv_iload_n hx hb dX2_init_76 rfl (lv_at hl 0 rfl) ?_
  refine lv_iconst (v := 1) hx hb dX2_init_77 (by decide) ?_
  refine va_iast (i := 2) (x := 1) hx hb hK hP hD hS 3 0 rfl rfl (show ¬ ((2 : Int32) < 0 ∨ 6 ≤ (2 : Int32).toNatClampNeg) by decide) dX2_init_78 (fun H locs hP hD hS => ?_)
  have hP : va_P D vwCl [(h0, .inr (2, [.int 4, .int 9, .int 10, .ref q23, .ref q30, .ref q38])), (q23, qc_f cI 3 (fun _ => 0)), (q30, qc_f cI 3 (upd (upd (upd (fun _ => 0) 0 6) 1 6) 2 6)), (q38, qc_f cI 6 (upd (upd (upd (fun _ => 0) 0 1) 1 1) 2 1))] H := hP
  have hD : va_D A [(h0, .inr (2, [.int 4, .int 9, .int 10, .ref q23, .ref q30, .ref q38])), (q23, qc_f cI 3 (fun _ => 0)), (q30, qc_f cI 3 (upd (upd (upd (fun _ => 0) 0 6) 1 6) 2 6)), (q38, qc_f cI 6 (upd (upd (upd (fun _ => 0) 0 1) 1 1) 2 1))] := hD
  refine lv_iinc (v := 3) (lv' := [(1, .int 3), (0, .ref h0)]) hx hb dX2_init_79 hl (k := 0) rfl (by decide) (by decide) rfl (fun ls hl => ?_)
  refine lv_goto (tgt := 66) hx hb dX2_init_82 (by decide) ?_
  refine lv_iload_n hx hb dX2_init_66 rfl (lv_at hl 0 rfl) ?_
  refine lv_bipush (v := 6) hx hb dX2_init_67 (by decide) ?_
  refine lv_icmp_ge (tgt := 85) hx hb dX2_init_69 (by decide) (fun z => absurd z (by decide)) (fun _ => ?_)
  refine lv_aload_n hx hb dX2_init_72 rfl (lv_at hl 1 rfl) ?_
  refine va_get (D := D) (ci := 2) (v := .ref q38) (C := RX2) (T := TX2) (N := 6) hx hb hts inlX2 hown hK hP 0 rfl rfl 5 (by decide) (hts (.fieldLink RX2 28 "QuestionLadder$Rules" "firstWeights" "[I") cm_43) (fun _ h9 => h9) rfl dX2_init_73 ?_
  refine lv_iload_n hx hb dX2_init_76 rfl (lv_at hl 0 rfl) ?_
  refine lv_iconst (v := 1) hx hb dX2_init_77 (by decide) ?_
  refine va_iast (i := 3) (x := 1) hx hb hK hP hD hS 3 0 rfl rfl (show ¬ ((3 : Int32) < 0 ∨ 6 ≤ (3 : Int32).toNatClampNeg) by decide) dX2_init_78 (fun H locs hP hD hS => ?_)
  have hP : va_P D vwCl [(h0, .inr (2, [.int 4, .int 9, .int 10, .ref q23, .ref q30, .ref q38])), (q23, qc_f cI 3 (fun _ => 0)), (q30, qc_f cI 3 (upd (upd (upd (fun _ => 0) 0 6) 1 6) 2 6)), (q38, qc_f cI 6 (upd (upd (upd (upd (fun _ => 0) 0 1) 1 1) 2 1) 3 1))] H := hP
  have hD : va_D A [(h0, .inr (2, [.int 4, .int 9, .int 10, .ref q23, .ref q30, .ref q38])), (q23, qc_f cI 3 (fun _ => 0)), (q30, qc_f cI 3 (upd (upd (upd (fun _ => 0) 0 6) 1 6) 2 6)), (q38, qc_f cI 6 (upd (upd (upd (upd (fun _ => 0) 0 1) 1 1) 2 1) 3 1))] := hD
  refine lv_iinc (v := 4) (lv' := [(1, .int 4), (0, .ref h0)]) hx hb dX2_init_79 hl (k := 0) rfl (by decide) (by decide) rfl (fun ls hl => ?_)
  refine lv_goto (tgt := 66) hx hb dX2_init_82 (by decide) ?_
  refine lv_iload_n hx hb dX2_init_66 rfl (lv_at hl 0 rfl) ?_
  refine lv_bipush (v := 6) hx hb dX2_init_67 (by decide) ?_
  refine lv_icmp_ge (tgt := 85) hx hb dX2_init_69 (by decide) (fun z => absurd z (by decide)) (fun _ => ?_)
  refine lv_aload_n hx hb dX2_init_72 rfl (lv_at hl 1 rfl) ?_
  refine va_get (D := D) (ci := 2) (v := .ref q38) (C := RX2) (T := TX2) (N := 6) hx hb hts inlX2 hown hK hP 0 rfl rfl 5 (by decide) (hts (.fieldLink RX2 28 "QuestionLadder$Rules" "firstWeights" "[I") cm_43) (fun _ h9 => h9) rfl dX2_init_73 ?_
  refine lv_iload_n hx hb dX2_init_76 rfl (lv_at hl 0 rfl) ?_
  refine lv_iconst (v := 1) hx hb dX2_init_77 (by decide) ?_
  refine va_iast (i := 4) (x := 1) hx hb hK hP hD hS 3 0 rfl rfl (show ¬ ((4 : Int32) < 0 ∨ 6 ≤ (4 : Int32).toNatClampNeg) by decide) dX2_init_78 (fun H locs hP hD hS => ?_)
  have hP : va_P D vwCl [(h0, .inr (2, [.int 4, .int 9, .int 10, .ref q23, .ref q30, .ref q38])), (q23, qc_f cI 3 (fun _ => 0)), (q30, qc_f cI 3 (upd (upd (upd (fun _ => 0) 0 6) 1 6) 2 6)), (q38, qc_f cI 6 (upd (upd (upd (upd (upd (fun _ => 0) 0 1) 1 1) 2 1) 3 1) 4 1))] H := hP
  have hD : va_D A [(h0, .inr (2, [.int 4, .int 9, .int 10, .ref q23, .ref q30, .ref q38])), (q23, qc_f cI 3 (fun _ => 0)), (q30, qc_f cI 3 (upd (upd (upd (fun _ => 0) 0 6) 1 6) 2 6)), (q38, qc_f cI 6 (upd (upd (upd (upd (upd (fun _ => 0) 0 1) 1 1) 2 1) 3 1) 4 1))] := hD
  refine lv_iinc (v := 5) (lv' := [(1, .int 5), (0, .ref h0)]) hx hb dX2_init_79 hl (k := 0) rfl (by decide) (by decide) rfl (fun ls hl => ?_)
  refine lv_goto (tgt := 66) hx hb dX2_init_82 (by decide) ?_
  refine lv_iload_n hx hb dX2_init_66 rfl (lv_at hl 0 rfl) ?_
  refine lv_bipush (v := 6) hx hb dX2_init_67 (by decide) ?_
  refine lv_icmp_ge (tgt := 85) hx hb dX2_init_69 (by decide) (fun z => absurd z (by decide)) (fun _ => ?_)
  refine lv_aload_n hx hb dX2_init_72 rfl (lv_at hl 1 rfl) ?_
  refine va_get (D := D) (ci := 2) (v := .ref q38) (C := RX2) (T := TX2) (N := 6) hx hb hts inlX2 hown hK hP 0 rfl rfl 5 (by decide) (hts (.fieldLink RX2 28 "QuestionLadder$Rules" "firstWeights" "[I") cm_43) (fun _ h9 => h9) rfl dX2_init_73 ?_
  refine lv_iload_n hx hb dX2_init_76 rfl (lv_at hl 0 rfl) ?_
  refine lv_iconst (v := 1) hx hb dX2_init_77 (by decide) ?_
  refine va_iast (i := 5) (x := 1) hx hb hK hP hD hS 3 0 rfl rfl (show ¬ ((5 : Int32) < 0 ∨ 6 ≤ (5 : Int32).toNatClampNeg) by decide) dX2_init_78 (fun H locs hP hD hS => ?_)
  have hP : va_P D vwCl [(h0, .inr (2, [.int 4, .int 9, .int 10, .ref q23, .ref q30, .ref q38])), (q23, qc_f cI 3 (fun _ => 0)), (q30, qc_f cI 3 (upd (upd (upd (fun _ => 0) 0 6) 1 6) 2 6)), (q38, qc_f cI 6 (upd (upd (upd (upd (upd (upd (fun _ => 0) 0 1) 1 1) 2 1) 3 1) 4 1) 5 1))] H := hP
  have hD : va_D A [(h0, .inr (2, [.int 4, .int 9, .int 10, .ref q23, .ref q30, .ref q38])), (q23, qc_f cI 3 (fun _ => 0)), (q30, qc_f cI 3 (upd (upd (upd (fun _ => 0) 0 6) 1 6) 2 6)), (q38, qc_f cI 6 (upd (upd (upd (upd (upd (upd (fun _ => 0) 0 1) 1 1) 2 1) 3 1) 4 1) 5 1))] := hD
  refine lv_iinc (v := 6) (lv' := [(1, .int 6), (0, .ref h0)]) hx hb dX2_init_79 hl (k := 0) rfl (by decide) (by decide) rfl (fun ls hl => ?_)
  refine lv_goto (tgt := 66) hx hb dX2_init_82 (by decide) ?_
  refine lv_iload_n hx hb dX2_init_66 rfl (lv_at hl 0 rfl) ?_
  refine lv_bipush (v := 6) hx hb dX2_init_67 (by decide) ?_
  refine lv_icmp_ge (tgt := 85) hx hb dX2_init_69 (by decide) (fun _ => ?_) (fun z => absurd (by decide) z)
  exact W.vret hx hb hr (fun t ht hW => ⟨⟨fun i => ([q23, q30, q38] : List Nat).getD i 0, rfl, trivial, by rw [ht]; exact hP, hD⟩, hS.F ht⟩) hS.2.2 dX2_init_85
theorem dX3_init_0 : decode cX3_init 0 = .ok (.aload_n 0, 1) := by decide +kernel
theorem dX3_init_1 : decode cX3_init 1 = .ok (.invokespecial 3, 3) := by decide +kernel
theorem dX3_init_4 : decode cX3_init 4 = .ok (.aload_n 0, 1) := by decide +kernel
theorem dX3_init_5 : decode cX3_init 5 = .ok (.bipush 6, 2) := by decide +kernel
theorem dX3_init_7 : decode cX3_init 7 = .ok (.newarray .int, 2) := by decide +kernel
theorem dX3_init_9 : decode cX3_init 9 = .ok (.putfield 9, 3) := by decide +kernel
theorem dX3_init_12 : decode cX3_init 12 = .ok (.aload_n 0, 1) := by decide +kernel
theorem dX3_init_13 : decode cX3_init 13 = .ok (.bipush 6, 2) := by decide +kernel
theorem dX3_init_15 : decode cX3_init 15 = .ok (.newarray .boolean, 2) := by decide +kernel
theorem dX3_init_17 : decode cX3_init 17 = .ok (.putfield 15, 3) := by decide +kernel
theorem dX3_init_20 : decode cX3_init 20 = .ok (.aload_n 0, 1) := by decide +kernel
theorem dX3_init_21 : decode cX3_init 21 = .ok (.bipush 7, 2) := by decide +kernel
theorem dX3_init_23 : decode cX3_init 23 = .ok (.bipush 6, 2) := by decide +kernel
theorem dX3_init_25 : decode cX3_init 25 = .ok (.multianewarray 19 2, 4) := by decide +kernel
theorem dX3_init_29 : decode cX3_init 29 = .ok (.putfield 21, 3) := by decide +kernel
theorem dX3_init_32 : decode cX3_init 32 = .ok (.return_, 1) := by decide +kernel
def qw_X3 (cI cZ cA : ClassId) (h : Nat) (a : Nat → Nat) : va_W := [(h, .inr (3, [.int 0, .int 0, .int 0, .int 0, .ref (a 0), .ref (a 1), .ref (a 2)])), (a 0, qc_f cI 6 (fun _ => 0)), (a 1, qc_f cZ 6 (fun _ => 0)), (a 2, qc_r cA 7 (a 2)), ((a 2) + 1 + 0, qc_f cI 6 (fun _ => 0)), ((a 2) + 1 + 1, qc_f cI 6 (fun _ => 0)), ((a 2) + 1 + 2, qc_f cI 6 (fun _ => 0)), ((a 2) + 1 + 3, qc_f cI 6 (fun _ => 0)), ((a 2) + 1 + 4, qc_f cI 6 (fun _ => 0)), ((a 2) + 1 + 5, qc_f cI 6 (fun _ => 0)), ((a 2) + 1 + 6, qc_f cI 6 (fun _ => 0))]
set_option maxHeartbeats 4000000 in
set_option maxRecDepth 100000 in
theorem cb_X3 (l : Launch) (D : va_G) (cI cZ cA : ClassId) (h0 sz : Nat) : Met l yX3_init (.code yX3_init cX3_init 1 none :: wsL_law) ({ frames := 1, cells := 10, slots := 61, locals := 40 }) (va_Pc [.ref h0] (qb_Pc D cI cZ cA [(h0, .inr (3, [.int 0, .int 0, .int 0, .int 0, .null, .null, .null]))] sz)) (va_Qv (fun _ : Nat → Nat => True) (fun a t => va_P D vwCl (qw_X3 cI cZ cA h0 a) t.heap ∧ va_D (va_A [(h0, .inr (3, [.int 0, .int 0, .int 0, .int 0, .null, .null, .null]))] sz) (qw_X3 cI cZ cA h0 a)) (va_A [(h0, .inr (3, [.int 0, .int 0, .int 0, .int 0, .null, .null, .null]))] sz)) 10 61 (va_A [(h0, .inr (3, [.int 0, .int 0, .int 0, .int 0, .null, .null, .null]))] sz) := by
  refine Met.ofW (cc := cX3_init) (maxL := 1) (ret := none) (by decide) rfl ?_
  intro p e s m args below meth c s₁ B hml hv
  obtain ⟨rfl, hsz, hP, hK, hD0, hAA, hBW⟩ := hv
  have hx := B.exec
  have hb := B.bytes
  have hr := B.returns
  have hts0 := atoms_spec (ws := .code yX3_init cX3_init 1 none :: wsL_law) B.pre
  have hts : ∀ w ∈ wsL_law, w.before ([Value.ref h0] : List Value).toArray s = true := fun w hw => hts0 w (List.mem_cons_of_mem _ hw)
  have hown : s.vm.findClass RX3 = some m.cls := findClass_of_methodNamed B.named
  have hlocks := B.notSynchronized
  have hin : meth.name = "<init>" := (name_of_methodNamed B.named B.method).1
  subst hsz
  have hD := hD0.self (sz := s.heap.size)
  generalize hAe : va_A [(h0, .inr (3, [.int 0, .int 0, .int 0, .int 0, .null, .null, .null]))] s.heap.size = A at hD ⊢
  have hA : ∀ q : Nat, s.heap.size ≤ q → A q := fun q h => by rw [← hAe]; exact Or.inr h
  have hS : va_S A s.heap s.heap [] := va_S.rf
  have hP : va_P D vwCl [(h0, .inr (3, [.int 0, .int 0, .int 0, .int 0, .null, .null, .null]))] s.heap := hP
  have hl := lv_entry ([.ref h0]) (n := 1) (Nat.le_of_ble_eq_true rfl)
  rw [lg_entry_eq]
  generalize (lg_sl ([.ref h0]) ++ List.replicate (1 - (lg_sl ([.ref h0])).length) Slot.unset).toArray = ls at hl ⊢
  have hl : lv_has ls 1 [(0, .ref h0)] := hl
  refine lv_aload_n hx hb dX3_init_0 rfl (lv_at hl 0 rfl) ?_
  refine W.objInit hx hb hown (hts (.methodLink RX3 3 objectInit) cm_55) (hts (.instanceMethod objectInit) cm_10) (hts (.code objectInit ⟨#[0xb1]⟩ 1 none) cm_11) rfl (by rw [hml]; exact hl.1) rfl dX3_init_1 (Nat.le_of_ble_eq_true rfl) (Nat.le_of_ble_eq_true rfl) ?_
  refine W.eq (g2 := F0 m 4 ls []) rfl ?_
  refine lv_aload_n hx hb dX3_init_4 rfl (lv_at hl 0 rfl) ?_
  refine lv_bipush (v := 6) hx hb dX3_init_5 (by decide) ?_
  refine qb_newa (atype := .int) (ty := .int) (N' := 6) (a0 := (6, .inl (fun _ => 0))) hx hb (hts (.arrayClass .int) cm_32) rfl hK hP hD hS hA 0 rfl (fun _ => rfl) (by decide) (by decide) (Nat.le_of_ble_eq_true rfl) (Nat.le_of_ble_eq_true rfl) (Nat.le_of_ble_eq_true rfl) dX3_init_7 (fun q7 H hP hD hS => ?_)
  have hP : va_P D vwCl [(h0, .inr (3, [.int 0, .int 0, .int 0, .int 0, .null, .null, .null])), (q7, qc_f cI 6 (fun _ => 0))] H := hP
  have hD : va_D A [(h0, .inr (3, [.int 0, .int 0, .int 0, .int 0, .null, .null, .null])), (q7, qc_f cI 6 (fun _ => 0))] := hD
  refine W.widen (k := 1) (n := 6) (by omega) (by omega) ?_
  refine va_putF (D := D) (ci := 3) (v := .ref q7) (ty := .array .int) (C := RX3) (T := TX3) (N := 7) hx hb hts inlX3 tyX3 tyX3_ok nmX3 hown hK hP hD hS 0 rfl rfl 4 (by decide) (hts (.fieldLink RX3 9 "QuestionLadder$Sitting" "questions" "[I") cm_56) (fun _ h9 => h9) rfl hin rfl (by decide +kernel) rfl rfl (Nat.le_of_ble_eq_true rfl) dX3_init_9 (fun H locs hP hD hS => ?_)
  have hP : va_P D vwCl [(h0, .inr (3, [.int 0, .int 0, .int 0, .int 0, .ref q7, .null, .null])), (q7, qc_f cI 6 (fun _ => 0))] H := hP
  have hD : va_D A [(h0, .inr (3, [.int 0, .int 0, .int 0, .int 0, .ref q7, .null, .null])), (q7, qc_f cI 6 (fun _ => 0))] := hD
  refine lv_aload_n hx hb dX3_init_12 rfl (lv_at hl 0 rfl) ?_
  refine lv_bipush (v := 6) hx hb dX3_init_13 (by decide) ?_
  refine qb_newa (atype := .boolean) (ty := .boolean) (N' := 6) (a0 := (6, .inl (fun _ => 0))) hx hb (hts (.arrayClass .boolean) cm_50) rfl hK hP hD hS hA 1 rfl (fun _ => rfl) (by decide) (by decide) (Nat.le_of_ble_eq_true rfl) (Nat.le_of_ble_eq_true rfl) (Nat.le_of_ble_eq_true rfl) dX3_init_15 (fun q15 H hP hD hS => ?_)
  have hP : va_P D vwCl [(h0, .inr (3, [.int 0, .int 0, .int 0, .int 0, .ref q7, .null, .null])), (q7, qc_f cI 6 (fun _ => 0)), (q15, qc_f cZ 6 (fun _ => 0))] H := hP
  have hD : va_D A [(h0, .inr (3, [.int 0, .int 0, .int 0, .int 0, .ref q7, .null, .null])), (q7, qc_f cI 6 (fun _ => 0)), (q15, qc_f cZ 6 (fun _ => 0))] := hD
  refine W.widen (k := 2) (n := 12) (by omega) (by omega) ?_
  refine va_putF (D := D) (ci := 3) (v := .ref q15) (ty := .array .boolean) (C := RX3) (T := TX3) (N := 7) hx hb hts inlX3 tyX3 tyX3_ok nmX3 hown hK hP hD hS 0 rfl rfl 5 (by decide) (hts (.fieldLink RX3 15 "QuestionLadder$Sitting" "rights" "[Z") cm_57) (fun _ h9 => h9) rfl hin rfl (by decide +kernel) rfl rfl (Nat.le_of_ble_eq_true rfl) dX3_init_17 (fun H locs hP hD hS => ?_)
  have hP : va_P D vwCl [(h0, .inr (3, [.int 0, .int 0, .int 0, .int 0, .ref q7, .ref q15, .null])), (q7, qc_f cI 6 (fun _ => 0)), (q15, qc_f cZ 6 (fun _ => 0))] H := hP
  have hD : va_D A [(h0, .inr (3, [.int 0, .int 0, .int 0, .int 0, .ref q7, .ref q15, .null])), (q7, qc_f cI 6 (fun _ => 0)), (q15, qc_f cZ 6 (fun _ => 0))] := hD
  refine lv_aload_n hx hb dX3_init_20 rfl (lv_at hl 0 rfl) ?_
  refine lv_bipush (v := 7) hx hb dX3_init_21 (by decide) ?_
  refine lv_bipush (v := 6) hx hb dX3_init_23 (by decide) ?_
  refine qb_grid (N := 7) (M := 6) (cA := cA) (cI := cI) hx hb hown (hts (.classLink RX3 19 "[[I") cm_58) hAA (by decide) (by decide) (Nat.le_of_ble_eq_true rfl) (Nat.le_of_ble_eq_true rfl) hP hD hS hA rfl rfl dX3_init_25 (fun q25 H locs hP hD hS => ?_)
  have hP : va_P D vwCl [(h0, .inr (3, [.int 0, .int 0, .int 0, .int 0, .ref q7, .ref q15, .null])), (q7, qc_f cI 6 (fun _ => 0)), (q15, qc_f cZ 6 (fun _ => 0)), (q25, qc_r cA 7 (q25)), (q25 + 1 + 0, qc_f cI 6 (fun _ => 0)), (q25 + 1 + 1, qc_f cI 6 (fun _ => 0)), (q25 + 1 + 2, qc_f cI 6 (fun _ => 0)), (q25 + 1 + 3, qc_f cI 6 (fun _ => 0)), (q25 + 1 + 4, qc_f cI 6 (fun _ => 0)), (q25 + 1 + 5, qc_f cI 6 (fun _ => 0)), (q25 + 1 + 6, qc_f cI 6 (fun _ => 0))] H := hP
  have hD : va_D A [(h0, .inr (3, [.int 0, .int 0, .int 0, .int 0, .ref q7, .ref q15, .null])), (q7, qc_f cI 6 (fun _ => 0)), (q15, qc_f cZ 6 (fun _ => 0)), (q25, qc_r cA 7 (q25)), (q25 + 1 + 0, qc_f cI 6 (fun _ => 0)), (q25 + 1 + 1, qc_f cI 6 (fun _ => 0)), (q25 + 1 + 2, qc_f cI 6 (fun _ => 0)), (q25 + 1 + 3, qc_f cI 6 (fun _ => 0)), (q25 + 1 + 4, qc_f cI 6 (fun _ => 0)), (q25 + 1 + 5, qc_f cI 6 (fun _ => 0)), (q25 + 1 + 6, qc_f cI 6 (fun _ => 0))] := hD
  refine W.widen (k := 10) (n := 61) (by omega) (by omega) ?_
  refine va_putF (D := D) (ci := 3) (v := .ref q25) (ty := .array (.array .int)) (C := RX3) (T := TX3) (N := 7) hx hb hts inlX3 tyX3 tyX3_ok nmX3 hown hK hP hD hS 0 rfl rfl 6 (by decide) (hts (.fieldLink RX3 21 "QuestionLadder$Sitting" "weightRows" "[[I") cm_59) (fun _ h9 => h9) rfl hin rfl (by decide +kernel) rfl rfl (Nat.le_of_ble_eq_true rfl) dX3_init_29 (fun H locs hP hD hS => ?_)
  have hP : va_P D vwCl [(h0, .inr (3, [.int 0, .int 0, .int 0, .int 0, .ref q7, .ref q15, .ref q25])), (q7, qc_f cI 6 (fun _ => 0)), (q15, qc_f cZ 6 (fun _ => 0)), (q25, qc_r cA 7 (q25)), (q25 + 1 + 0, qc_f cI 6 (fun _ => 0)), (q25 + 1 + 1, qc_f cI 6 (fun _ => 0)), (q25 + 1 + 2, qc_f cI 6 (fun _ => 0)), (q25 + 1 + 3, qc_f cI 6 (fun _ => 0)), (q25 + 1 + 4, qc_f cI 6 (fun _ => 0)), (q25 + 1 + 5, qc_f cI 6 (fun _ => 0)), (q25 + 1 + 6, qc_f cI 6 (fun _ => 0))] H := hP
  have hD : va_D A [(h0, .inr (3, [.int 0, .int 0, .int 0, .int 0, .ref q7, .ref q15, .ref q25])), (q7, qc_f cI 6 (fun _ => 0)), (q15, qc_f cZ 6 (fun _ => 0)), (q25, qc_r cA 7 (q25)), (q25 + 1 + 0, qc_f cI 6 (fun _ => 0)), (q25 + 1 + 1, qc_f cI 6 (fun _ => 0)), (q25 + 1 + 2, qc_f cI 6 (fun _ => 0)), (q25 + 1 + 3, qc_f cI 6 (fun _ => 0)), (q25 + 1 + 4, qc_f cI 6 (fun _ => 0)), (q25 + 1 + 5, qc_f cI 6 (fun _ => 0)), (q25 + 1 + 6, qc_f cI 6 (fun _ => 0))] := hD
  exact W.vret hx hb hr (fun t ht hW => ⟨⟨fun i => ([q7, q15, q25] : List Nat).getD i 0, rfl, trivial, by rw [ht]; exact hP, hD⟩, hS.F ht⟩) hS.2.2 dX3_init_32
theorem dX5_init_0 : decode cX5_init 0 = .ok (.aload_n 0, 1) := by decide +kernel
theorem dX5_init_1 : decode cX5_init 1 = .ok (.invokespecial 1, 3) := by decide +kernel
theorem dX5_init_4 : decode cX5_init 4 = .ok (.aload_n 0, 1) := by decide +kernel
theorem dX5_init_5 : decode cX5_init 5 = .ok (.bipush 10, 2) := by decide +kernel
theorem dX5_init_7 : decode cX5_init 7 = .ok (.newarray .int, 2) := by decide +kernel
theorem dX5_init_9 : decode cX5_init 9 = .ok (.putfield 7, 3) := by decide +kernel
theorem dX5_init_12 : decode cX5_init 12 = .ok (.aload_n 0, 1) := by decide +kernel
theorem dX5_init_13 : decode cX5_init 13 = .ok (.bipush 10, 2) := by decide +kernel
theorem dX5_init_15 : decode cX5_init 15 = .ok (.newarray .int, 2) := by decide +kernel
theorem dX5_init_17 : decode cX5_init 17 = .ok (.putfield 13, 3) := by decide +kernel
theorem dX5_init_20 : decode cX5_init 20 = .ok (.aload_n 0, 1) := by decide +kernel
theorem dX5_init_21 : decode cX5_init 21 = .ok (.bipush 10, 2) := by decide +kernel
theorem dX5_init_23 : decode cX5_init 23 = .ok (.newarray .int, 2) := by decide +kernel
theorem dX5_init_25 : decode cX5_init 25 = .ok (.putfield 16, 3) := by decide +kernel
theorem dX5_init_28 : decode cX5_init 28 = .ok (.aload_n 0, 1) := by decide +kernel
theorem dX5_init_29 : decode cX5_init 29 = .ok (.bipush 10, 2) := by decide +kernel
theorem dX5_init_31 : decode cX5_init 31 = .ok (.newarray .int, 2) := by decide +kernel
theorem dX5_init_33 : decode cX5_init 33 = .ok (.putfield 19, 3) := by decide +kernel
theorem dX5_init_36 : decode cX5_init 36 = .ok (.aload_n 0, 1) := by decide +kernel
theorem dX5_init_37 : decode cX5_init 37 = .ok (.bipush 10, 2) := by decide +kernel
theorem dX5_init_39 : decode cX5_init 39 = .ok (.newarray .int, 2) := by decide +kernel
theorem dX5_init_41 : decode cX5_init 41 = .ok (.putfield 22, 3) := by decide +kernel
theorem dX5_init_44 : decode cX5_init 44 = .ok (.aload_n 0, 1) := by decide +kernel
theorem dX5_init_45 : decode cX5_init 45 = .ok (.bipush 60, 2) := by decide +kernel
theorem dX5_init_47 : decode cX5_init 47 = .ok (.newarray .int, 2) := by decide +kernel
theorem dX5_init_49 : decode cX5_init 49 = .ok (.putfield 25, 3) := by decide +kernel
theorem dX5_init_52 : decode cX5_init 52 = .ok (.aload_n 0, 1) := by decide +kernel
theorem dX5_init_53 : decode cX5_init 53 = .ok (.iconst 4, 1) := by decide +kernel
theorem dX5_init_54 : decode cX5_init 54 = .ok (.putfield 28, 3) := by decide +kernel
theorem dX5_init_57 : decode cX5_init 57 = .ok (.aload_n 0, 1) := by decide +kernel
theorem dX5_init_58 : decode cX5_init 58 = .ok (.iconst 3, 1) := by decide +kernel
theorem dX5_init_59 : decode cX5_init 59 = .ok (.newarray .int, 2) := by decide +kernel
theorem dX5_init_61 : decode cX5_init 61 = .ok (.putfield 32, 3) := by decide +kernel
theorem dX5_init_64 : decode cX5_init 64 = .ok (.aload_n 0, 1) := by decide +kernel
theorem dX5_init_65 : decode cX5_init 65 = .ok (.iconst 3, 1) := by decide +kernel
theorem dX5_init_66 : decode cX5_init 66 = .ok (.newarray .int, 2) := by decide +kernel
theorem dX5_init_68 : decode cX5_init 68 = .ok (.dup, 1) := by decide +kernel
theorem dX5_init_69 : decode cX5_init 69 = .ok (.iconst 0, 1) := by decide +kernel
theorem dX5_init_70 : decode cX5_init 70 = .ok (.bipush 6, 2) := by decide +kernel
theorem dX5_init_72 : decode cX5_init 72 = .ok (.iastore, 1) := by decide +kernel
theorem dX5_init_73 : decode cX5_init 73 = .ok (.dup, 1) := by decide +kernel
theorem dX5_init_74 : decode cX5_init 74 = .ok (.iconst 1, 1) := by decide +kernel
theorem dX5_init_75 : decode cX5_init 75 = .ok (.bipush 6, 2) := by decide +kernel
theorem dX5_init_77 : decode cX5_init 77 = .ok (.iastore, 1) := by decide +kernel
theorem dX5_init_78 : decode cX5_init 78 = .ok (.dup, 1) := by decide +kernel
theorem dX5_init_79 : decode cX5_init 79 = .ok (.iconst 2, 1) := by decide +kernel
theorem dX5_init_80 : decode cX5_init 80 = .ok (.bipush 6, 2) := by decide +kernel
theorem dX5_init_82 : decode cX5_init 82 = .ok (.iastore, 1) := by decide +kernel
theorem dX5_init_83 : decode cX5_init 83 = .ok (.putfield 35, 3) := by decide +kernel
theorem dX5_init_86 : decode cX5_init 86 = .ok (.aload_n 0, 1) := by decide +kernel
theorem dX5_init_87 : decode cX5_init 87 = .ok (.bipush 9, 2) := by decide +kernel
theorem dX5_init_89 : decode cX5_init 89 = .ok (.putfield 38, 3) := by decide +kernel
theorem dX5_init_92 : decode cX5_init 92 = .ok (.aload_n 0, 1) := by decide +kernel
theorem dX5_init_93 : decode cX5_init 93 = .ok (.bipush 10, 2) := by decide +kernel
theorem dX5_init_95 : decode cX5_init 95 = .ok (.putfield 41, 3) := by decide +kernel
theorem dX5_init_98 : decode cX5_init 98 = .ok (.aload_n 0, 1) := by decide +kernel
theorem dX5_init_99 : decode cX5_init 99 = .ok (.bipush 6, 2) := by decide +kernel
theorem dX5_init_101 : decode cX5_init 101 = .ok (.newarray .int, 2) := by decide +kernel
theorem dX5_init_103 : decode cX5_init 103 = .ok (.dup, 1) := by decide +kernel
theorem dX5_init_104 : decode cX5_init 104 = .ok (.iconst 0, 1) := by decide +kernel
theorem dX5_init_105 : decode cX5_init 105 = .ok (.iconst 1, 1) := by decide +kernel
theorem dX5_init_106 : decode cX5_init 106 = .ok (.iastore, 1) := by decide +kernel
theorem dX5_init_107 : decode cX5_init 107 = .ok (.dup, 1) := by decide +kernel
theorem dX5_init_108 : decode cX5_init 108 = .ok (.iconst 1, 1) := by decide +kernel
theorem dX5_init_109 : decode cX5_init 109 = .ok (.iconst 1, 1) := by decide +kernel
theorem dX5_init_110 : decode cX5_init 110 = .ok (.iastore, 1) := by decide +kernel
theorem dX5_init_111 : decode cX5_init 111 = .ok (.dup, 1) := by decide +kernel
theorem dX5_init_112 : decode cX5_init 112 = .ok (.iconst 2, 1) := by decide +kernel
theorem dX5_init_113 : decode cX5_init 113 = .ok (.iconst 1, 1) := by decide +kernel
theorem dX5_init_114 : decode cX5_init 114 = .ok (.iastore, 1) := by decide +kernel
theorem dX5_init_115 : decode cX5_init 115 = .ok (.dup, 1) := by decide +kernel
theorem dX5_init_116 : decode cX5_init 116 = .ok (.iconst 3, 1) := by decide +kernel
theorem dX5_init_117 : decode cX5_init 117 = .ok (.iconst 1, 1) := by decide +kernel
theorem dX5_init_118 : decode cX5_init 118 = .ok (.iastore, 1) := by decide +kernel
theorem dX5_init_119 : decode cX5_init 119 = .ok (.dup, 1) := by decide +kernel
theorem dX5_init_120 : decode cX5_init 120 = .ok (.iconst 4, 1) := by decide +kernel
theorem dX5_init_121 : decode cX5_init 121 = .ok (.iconst 1, 1) := by decide +kernel
theorem dX5_init_122 : decode cX5_init 122 = .ok (.iastore, 1) := by decide +kernel
theorem dX5_init_123 : decode cX5_init 123 = .ok (.dup, 1) := by decide +kernel
theorem dX5_init_124 : decode cX5_init 124 = .ok (.iconst 5, 1) := by decide +kernel
theorem dX5_init_125 : decode cX5_init 125 = .ok (.iconst 1, 1) := by decide +kernel
theorem dX5_init_126 : decode cX5_init 126 = .ok (.iastore, 1) := by decide +kernel
theorem dX5_init_127 : decode cX5_init 127 = .ok (.putfield 44, 3) := by decide +kernel
theorem dX5_init_130 : decode cX5_init 130 = .ok (.aload_n 0, 1) := by decide +kernel
theorem dX5_init_131 : decode cX5_init 131 = .ok (.bipush 16, 2) := by decide +kernel
theorem dX5_init_133 : decode cX5_init 133 = .ok (.newarray .int, 2) := by decide +kernel
theorem dX5_init_135 : decode cX5_init 135 = .ok (.putfield 47, 3) := by decide +kernel
theorem dX5_init_138 : decode cX5_init 138 = .ok (.aload_n 0, 1) := by decide +kernel
theorem dX5_init_139 : decode cX5_init 139 = .ok (.bipush 16, 2) := by decide +kernel
theorem dX5_init_141 : decode cX5_init 141 = .ok (.newarray .boolean, 2) := by decide +kernel
theorem dX5_init_143 : decode cX5_init 143 = .ok (.putfield 50, 3) := by decide +kernel
theorem dX5_init_146 : decode cX5_init 146 = .ok (.aload_n 0, 1) := by decide +kernel
theorem dX5_init_147 : decode cX5_init 147 = .ok (.bipush 72, 2) := by decide +kernel
theorem dX5_init_149 : decode cX5_init 149 = .ok (.newarray .int, 2) := by decide +kernel
theorem dX5_init_151 : decode cX5_init 151 = .ok (.putfield 54, 3) := by decide +kernel
theorem dX5_init_154 : decode cX5_init 154 = .ok (.aload_n 0, 1) := by decide +kernel
theorem dX5_init_155 : decode cX5_init 155 = .ok (.sipush 1024, 3) := by decide +kernel
theorem dX5_init_158 : decode cX5_init 158 = .ok (.newarray .boolean, 2) := by decide +kernel
theorem dX5_init_160 : decode cX5_init 160 = .ok (.putfield 57, 3) := by decide +kernel
theorem dX5_init_163 : decode cX5_init 163 = .ok (.aload_n 0, 1) := by decide +kernel
theorem dX5_init_164 : decode cX5_init 164 = .ok (.sipush 1024, 3) := by decide +kernel
theorem dX5_init_167 : decode cX5_init 167 = .ok (.newarray .boolean, 2) := by decide +kernel
theorem dX5_init_169 : decode cX5_init 169 = .ok (.putfield 60, 3) := by decide +kernel
theorem dX5_init_172 : decode cX5_init 172 = .ok (.aload_n 0, 1) := by decide +kernel
theorem dX5_init_173 : decode cX5_init 173 = .ok (.iconst 0, 1) := by decide +kernel
theorem dX5_init_174 : decode cX5_init 174 = .ok (.putfield 63, 3) := by decide +kernel
theorem dX5_init_177 : decode cX5_init 177 = .ok (.return_, 1) := by decide +kernel
def qw_X5 (cI cZ cA : ClassId) (h : Nat) (a : Nat → Nat) : va_W := [(h, .inr (5, [.int 0, .ref (a 0), .ref (a 1), .ref (a 2), .ref (a 3), .ref (a 4), .ref (a 5), .int 4, .ref (a 6), .ref (a 7), .int 9, .int 10, .ref (a 8), .int 0, .int 0, .int 0, .ref (a 9), .ref (a 10), .ref (a 11), .ref (a 12), .ref (a 13), .long 0, .long 0])), (a 0, qc_f cI 10 (fun _ => 0)), (a 1, qc_f cI 10 (fun _ => 0)), (a 2, qc_f cI 10 (fun _ => 0)), (a 3, qc_f cI 10 (fun _ => 0)), (a 4, qc_f cI 10 (fun _ => 0)), (a 5, qc_f cI 60 (fun _ => 0)), (a 6, qc_f cI 3 (fun _ => 0)), (a 7, qc_f cI 3 (upd (upd (upd (fun _ => 0) 0 6) 1 6) 2 6)), (a 8, qc_f cI 6 (upd (upd (upd (upd (upd (upd (fun _ => 0) 0 1) 1 1) 2 1) 3 1) 4 1) 5 1)), (a 9, qc_f cI 16 (fun _ => 0)), (a 10, qc_f cZ 16 (fun _ => 0)), (a 11, qc_f cI 72 (fun _ => 0)), (a 12, qc_f cZ 1024 (fun _ => 0)), (a 13, qc_f cZ 1024 (fun _ => 0))]
set_option maxHeartbeats 4000000 in
set_option maxRecDepth 100000 in
theorem cb_X5 (l : Launch) (D : va_G) (cI cZ cA : ClassId) (h0 sz : Nat) : Met l yX5_init (.code yX5_init cX5_init 1 none :: wsL_law) ({ frames := 1, cells := 14, slots := 2274, locals := 40 }) (va_Pc [.ref h0] (qb_Pc D cI cZ cA [(h0, .inr (5, [.int 0, .null, .null, .null, .null, .null, .null, .int 0, .null, .null, .int 0, .int 0, .null, .int 0, .int 0, .int 0, .null, .null, .null, .null, .null, .long 0, .long 0]))] sz)) (va_Qv (fun _ : Nat → Nat => True) (fun a t => va_P D vwCl (qw_X5 cI cZ cA h0 a) t.heap ∧ va_D (va_A [(h0, .inr (5, [.int 0, .null, .null, .null, .null, .null, .null, .int 0, .null, .null, .int 0, .int 0, .null, .int 0, .int 0, .int 0, .null, .null, .null, .null, .null, .long 0, .long 0]))] sz) (qw_X5 cI cZ cA h0 a)) (va_A [(h0, .inr (5, [.int 0, .null, .null, .null, .null, .null, .null, .int 0, .null, .null, .int 0, .int 0, .null, .int 0, .int 0, .int 0, .null, .null, .null, .null, .null, .long 0, .long 0]))] sz)) 14 2274 (va_A [(h0, .inr (5, [.int 0, .null, .null, .null, .null, .null, .null, .int 0, .null, .null, .int 0, .int 0, .null, .int 0, .int 0, .int 0, .null, .null, .null, .null, .null, .long 0, .long 0]))] sz) := by
  refine Met.ofW (cc := cX5_init) (maxL := 1) (ret := none) (by decide) rfl ?_
  intro p e s m args below meth c s₁ B hml hv
  obtain ⟨rfl, hsz, hP, hK, hD0, hAA, hBW⟩ := hv
  have hx := B.exec
  have hb := B.bytes
  have hr := B.returns
  have hts0 := atoms_spec (ws := .code yX5_init cX5_init 1 none :: wsL_law) B.pre
  have hts : ∀ w ∈ wsL_law, w.before ([Value.ref h0] : List Value).toArray s = true := fun w hw => hts0 w (List.mem_cons_of_mem _ hw)
  have hown : s.vm.findClass RX5 = some m.cls := findClass_of_methodNamed B.named
  have hlocks := B.notSynchronized
  have hin : meth.name = "<init>" := (name_of_methodNamed B.named B.method).1
  subst hsz
  have hD := hD0.self (sz := s.heap.size)
  generalize hAe : va_A [(h0, .inr (5, [.int 0, .null, .null, .null, .null, .null, .null, .int 0, .null, .null, .int 0, .int 0, .null, .int 0, .int 0, .int 0, .null, .null, .null, .null, .null, .long 0, .long 0]))] s.heap.size = A at hD ⊢
  have hA : ∀ q : Nat, s.heap.size ≤ q → A q := fun q h => by rw [← hAe]; exact Or.inr h
  have hS : va_S A s.heap s.heap [] := va_S.rf
  have hP : va_P D vwCl [(h0, .inr (5, [.int 0, .null, .null, .null, .null, .null, .null, .int 0, .null, .null, .int 0, .int 0, .null, .int 0, .int 0, .int 0, .null, .null, .null, .null, .null, .long 0, .long 0]))] s.heap := hP
  have hl := lv_entry ([.ref h0]) (n := 1) (Nat.le_of_ble_eq_true rfl)
  rw [lg_entry_eq]
  generalize (lg_sl ([.ref h0]) ++ List.replicate (1 - (lg_sl ([.ref h0])).length) Slot.unset).toArray = ls at hl ⊢
  have hl : lv_has ls 1 [(0, .ref h0)] := hl
  refine lv_aload_n hx hb dX5_init_0 rfl (lv_at hl 0 rfl) ?_
  refine W.objInit hx hb hown (hts (.methodLink RX5 1 objectInit) cm_63) (hts (.instanceMethod objectInit) cm_10) (hts (.code objectInit ⟨#[0xb1]⟩ 1 none) cm_11) rfl (by rw [hml]; exact hl.1) rfl dX5_init_1 (Nat.le_of_ble_eq_true rfl) (Nat.le_of_ble_eq_true rfl) ?_
  refine W.eq (g2 := F0 m 4 ls []) rfl ?_
  refine lv_aload_n hx hb dX5_init_4 rfl (lv_at hl 0 rfl) ?_
  refine lv_bipush (v := 10) hx hb dX5_init_5 (by decide) ?_
  refine qb_newa (atype := .int) (ty := .int) (N' := 10) (a0 := (10, .inl (fun _ => 0))) hx hb (hts (.arrayClass .int) cm_32) rfl hK hP hD hS hA 0 rfl (fun _ => rfl) (by decide) (by decide) (Nat.le_of_ble_eq_true rfl) (Nat.le_of_ble_eq_true rfl) (Nat.le_of_ble_eq_true rfl) dX5_init_7 (fun q7 H hP hD hS => ?_)
  have hP : va_P D vwCl [(h0, .inr (5, [.int 0, .null, .null, .null, .null, .null, .null, .int 0, .null, .null, .int 0, .int 0, .null, .int 0, .int 0, .int 0, .null, .null, .null, .null, .null, .long 0, .long 0])), (q7, qc_f cI 10 (fun _ => 0))] H := hP
  have hD : va_D A [(h0, .inr (5, [.int 0, .null, .null, .null, .null, .null, .null, .int 0, .null, .null, .int 0, .int 0, .null, .int 0, .int 0, .int 0, .null, .null, .null, .null, .null, .long 0, .long 0])), (q7, qc_f cI 10 (fun _ => 0))] := hD
  refine W.widen (k := 1) (n := 10) (by omega) (by omega) ?_
  refine va_putF (D := D) (ci := 5) (v := .ref q7) (ty := .array .int) (C := RX5) (T := TX5) (N := 23) hx hb hts inlX5 tyX5 tyX5_ok nmX5 hown hK hP hD hS 0 rfl rfl 1 (by decide) (hts (.fieldLink RX5 7 "QuestionLadderModel" "kind" "[I") cm_64) (fun _ h9 => h9) rfl hin rfl (by decide +kernel) rfl rfl (Nat.le_of_ble_eq_true rfl) dX5_init_9 (fun H locs hP hD hS => ?_)
  have hP : va_P D vwCl [(h0, .inr (5, [.int 0, .ref q7, .null, .null, .null, .null, .null, .int 0, .null, .null, .int 0, .int 0, .null, .int 0, .int 0, .int 0, .null, .null, .null, .null, .null, .long 0, .long 0])), (q7, qc_f cI 10 (fun _ => 0))] H := hP
  have hD : va_D A [(h0, .inr (5, [.int 0, .ref q7, .null, .null, .null, .null, .null, .int 0, .null, .null, .int 0, .int 0, .null, .int 0, .int 0, .int 0, .null, .null, .null, .null, .null, .long 0, .long 0])), (q7, qc_f cI 10 (fun _ => 0))] := hD
  refine lv_aload_n hx hb dX5_init_12 rfl (lv_at hl 0 rfl) ?_
  refine lv_bipush (v := 10) hx hb dX5_init_13 (by decide) ?_
  refine qb_newa (atype := .int) (ty := .int) (N' := 10) (a0 := (10, .inl (fun _ => 0))) hx hb (hts (.arrayClass .int) cm_32) rfl hK hP hD hS hA 0 rfl (fun _ => rfl) (by decide) (by decide) (Nat.le_of_ble_eq_true rfl) (Nat.le_of_ble_eq_true rfl) (Nat.le_of_ble_eq_true rfl) dX5_init_15 (fun q15 H hP hD hS => ?_)
  have hP : va_P D vwCl [(h0, .inr (5, [.int 0, .ref q7, .null, .null, .null, .null, .null, .int 0, .null, .null, .int 0, .int 0, .null, .int 0, .int 0, .int 0, .null, .null, .null, .null, .null, .long 0, .long 0])), (q7, qc_f cI 10 (fun _ => 0)), (q15, qc_f cI 10 (fun _ => 0))] H := hP
  have hD : va_D A [(h0, .inr (5, [.int 0, .ref q7, .null, .null, .null, .null, .null, .int 0, .null, .null, .int 0, .int 0, .null, .int 0, .int 0, .int 0, .null, .null, .null, .null, .null, .long 0, .long 0])), (q7, qc_f cI 10 (fun _ => 0)), (q15, qc_f cI 10 (fun _ => 0))] := hD
  refine W.widen (k := 2) (n := 20) (by omega) (by omega) ?_
  refine va_putF (D := D) (ci := 5) (v := .ref q15) (ty := .array .int) (C := RX5) (T := TX5) (N := 23) hx hb hts inlX5 tyX5 tyX5_ok nmX5 hown hK hP hD hS 0 rfl rfl 2 (by decide) (hts (.fieldLink RX5 13 "QuestionLadderModel" "group" "[I") cm_65) (fun _ h9 => h9) rfl hin rfl (by decide +kernel) rfl rfl (Nat.le_of_ble_eq_true rfl) dX5_init_17 (fun H locs hP hD hS => ?_)
  have hP : va_P D vwCl [(h0, .inr (5, [.int 0, .ref q7, .ref q15, .null, .null, .null, .null, .int 0, .null, .null, .int 0, .int 0, .null, .int 0, .int 0, .int 0, .null, .null, .null, .null, .null, .long 0, .long 0])), (q7, qc_f cI 10 (fun _ => 0)), (q15, qc_f cI 10 (fun _ => 0))] H := hP
  have hD : va_D A [(h0, .inr (5, [.int 0, .ref q7, .ref q15, .null, .null, .null, .null, .int 0, .null, .null, .int 0, .int 0, .null, .int 0, .int 0, .int 0, .null, .null, .null, .null, .null, .long 0, .long 0])), (q7, qc_f cI 10 (fun _ => 0)), (q15, qc_f cI 10 (fun _ => 0))] := hD
  refine lv_aload_n hx hb dX5_init_20 rfl (lv_at hl 0 rfl) ?_
  refine lv_bipush (v := 10) hx hb dX5_init_21 (by decide) ?_
  refine qb_newa (atype := .int) (ty := .int) (N' := 10) (a0 := (10, .inl (fun _ => 0))) hx hb (hts (.arrayClass .int) cm_32) rfl hK hP hD hS hA 0 rfl (fun _ => rfl) (by decide) (by decide) (Nat.le_of_ble_eq_true rfl) (Nat.le_of_ble_eq_true rfl) (Nat.le_of_ble_eq_true rfl) dX5_init_23 (fun q23 H hP hD hS => ?_)
  have hP : va_P D vwCl [(h0, .inr (5, [.int 0, .ref q7, .ref q15, .null, .null, .null, .null, .int 0, .null, .null, .int 0, .int 0, .null, .int 0, .int 0, .int 0, .null, .null, .null, .null, .null, .long 0, .long 0])), (q7, qc_f cI 10 (fun _ => 0)), (q15, qc_f cI 10 (fun _ => 0)), (q23, qc_f cI 10 (fun _ => 0))] H := hP
  have hD : va_D A [(h0, .inr (5, [.int 0, .ref q7, .ref q15, .null, .null, .null, .null, .int 0, .null, .null, .int 0, .int 0, .null, .int 0, .int 0, .int 0, .null, .null, .null, .null, .null, .long 0, .long 0])), (q7, qc_f cI 10 (fun _ => 0)), (q15, qc_f cI 10 (fun _ => 0)), (q23, qc_f cI 10 (fun _ => 0))] := hD
  refine W.widen (k := 3) (n := 30) (by omega) (by omega) ?_
  refine va_putF (D := D) (ci := 5) (v := .ref q23) (ty := .array .int) (C := RX5) (T := TX5) (N := 23) hx hb hts inlX5 tyX5 tyX5_ok nmX5 hown hK hP hD hS 0 rfl rfl 3 (by decide) (hts (.fieldLink RX5 16 "QuestionLadderModel" "content" "[I") cm_66) (fun _ h9 => h9) rfl hin rfl (by decide +kernel) rfl rfl (Nat.le_of_ble_eq_true rfl) dX5_init_25 (fun H locs hP hD hS => ?_)
  have hP : va_P D vwCl [(h0, .inr (5, [.int 0, .ref q7, .ref q15, .ref q23, .null, .null, .null, .int 0, .null, .null, .int 0, .int 0, .null, .int 0, .int 0, .int 0, .null, .null, .null, .null, .null, .long 0, .long 0])), (q7, qc_f cI 10 (fun _ => 0)), (q15, qc_f cI 10 (fun _ => 0)), (q23, qc_f cI 10 (fun _ => 0))] H := hP
  have hD : va_D A [(h0, .inr (5, [.int 0, .ref q7, .ref q15, .ref q23, .null, .null, .null, .int 0, .null, .null, .int 0, .int 0, .null, .int 0, .int 0, .int 0, .null, .null, .null, .null, .null, .long 0, .long 0])), (q7, qc_f cI 10 (fun _ => 0)), (q15, qc_f cI 10 (fun _ => 0)), (q23, qc_f cI 10 (fun _ => 0))] := hD
  refine lv_aload_n hx hb dX5_init_28 rfl (lv_at hl 0 rfl) ?_
  refine lv_bipush (v := 10) hx hb dX5_init_29 (by decide) ?_
  refine qb_newa (atype := .int) (ty := .int) (N' := 10) (a0 := (10, .inl (fun _ => 0))) hx hb (hts (.arrayClass .int) cm_32) rfl hK hP hD hS hA 0 rfl (fun _ => rfl) (by decide) (by decide) (Nat.le_of_ble_eq_true rfl) (Nat.le_of_ble_eq_true rfl) (Nat.le_of_ble_eq_true rfl) dX5_init_31 (fun q31 H hP hD hS => ?_)
  have hP : va_P D vwCl [(h0, .inr (5, [.int 0, .ref q7, .ref q15, .ref q23, .null, .null, .null, .int 0, .null, .null, .int 0, .int 0, .null, .int 0, .int 0, .int 0, .null, .null, .null, .null, .null, .long 0, .long 0])), (q7, qc_f cI 10 (fun _ => 0)), (q15, qc_f cI 10 (fun _ => 0)), (q23, qc_f cI 10 (fun _ => 0)), (q31, qc_f cI 10 (fun _ => 0))] H := hP
  have hD : va_D A [(h0, .inr (5, [.int 0, .ref q7, .ref q15, .ref q23, .null, .null, .null, .int 0, .null, .null, .int 0, .int 0, .null, .int 0, .int 0, .int 0, .null, .null, .null, .null, .null, .long 0, .long 0])), (q7, qc_f cI 10 (fun _ => 0)), (q15, qc_f cI 10 (fun _ => 0)), (q23, qc_f cI 10 (fun _ => 0)), (q31, qc_f cI 10 (fun _ => 0))] := hD
  refine W.widen (k := 4) (n := 40) (by omega) (by omega) ?_
  refine va_putF (D := D) (ci := 5) (v := .ref q31) (ty := .array .int) (C := RX5) (T := TX5) (N := 23) hx hb hts inlX5 tyX5 tyX5_ok nmX5 hown hK hP hD hS 0 rfl rfl 4 (by decide) (hts (.fieldLink RX5 19 "QuestionLadderModel" "limit" "[I") cm_67) (fun _ h9 => h9) rfl hin rfl (by decide +kernel) rfl rfl (Nat.le_of_ble_eq_true rfl) dX5_init_33 (fun H locs hP hD hS => ?_)
  have hP : va_P D vwCl [(h0, .inr (5, [.int 0, .ref q7, .ref q15, .ref q23, .ref q31, .null, .null, .int 0, .null, .null, .int 0, .int 0, .null, .int 0, .int 0, .int 0, .null, .null, .null, .null, .null, .long 0, .long 0])), (q7, qc_f cI 10 (fun _ => 0)), (q15, qc_f cI 10 (fun _ => 0)), (q23, qc_f cI 10 (fun _ => 0)), (q31, qc_f cI 10 (fun _ => 0))] H := hP
  have hD : va_D A [(h0, .inr (5, [.int 0, .ref q7, .ref q15, .ref q23, .ref q31, .null, .null, .int 0, .null, .null, .int 0, .int 0, .null, .int 0, .int 0, .int 0, .null, .null, .null, .null, .null, .long 0, .long 0])), (q7, qc_f cI 10 (fun _ => 0)), (q15, qc_f cI 10 (fun _ => 0)), (q23, qc_f cI 10 (fun _ => 0)), (q31, qc_f cI 10 (fun _ => 0))] := hD
  refine lv_aload_n hx hb dX5_init_36 rfl (lv_at hl 0 rfl) ?_
  refine lv_bipush (v := 10) hx hb dX5_init_37 (by decide) ?_
  refine qb_newa (atype := .int) (ty := .int) (N' := 10) (a0 := (10, .inl (fun _ => 0))) hx hb (hts (.arrayClass .int) cm_32) rfl hK hP hD hS hA 0 rfl (fun _ => rfl) (by decide) (by decide) (Nat.le_of_ble_eq_true rfl) (Nat.le_of_ble_eq_true rfl) (Nat.le_of_ble_eq_true rfl) dX5_init_39 (fun q39 H hP hD hS => ?_)
  have hP : va_P D vwCl [(h0, .inr (5, [.int 0, .ref q7, .ref q15, .ref q23, .ref q31, .null, .null, .int 0, .null, .null, .int 0, .int 0, .null, .int 0, .int 0, .int 0, .null, .null, .null, .null, .null, .long 0, .long 0])), (q7, qc_f cI 10 (fun _ => 0)), (q15, qc_f cI 10 (fun _ => 0)), (q23, qc_f cI 10 (fun _ => 0)), (q31, qc_f cI 10 (fun _ => 0)), (q39, qc_f cI 10 (fun _ => 0))] H := hP
  have hD : va_D A [(h0, .inr (5, [.int 0, .ref q7, .ref q15, .ref q23, .ref q31, .null, .null, .int 0, .null, .null, .int 0, .int 0, .null, .int 0, .int 0, .int 0, .null, .null, .null, .null, .null, .long 0, .long 0])), (q7, qc_f cI 10 (fun _ => 0)), (q15, qc_f cI 10 (fun _ => 0)), (q23, qc_f cI 10 (fun _ => 0)), (q31, qc_f cI 10 (fun _ => 0)), (q39, qc_f cI 10 (fun _ => 0))] := hD
  refine W.widen (k := 5) (n := 50) (by omega) (by omega) ?_
  refine va_putF (D := D) (ci := 5) (v := .ref q39) (ty := .array .int) (C := RX5) (T := TX5) (N := 23) hx hb hts inlX5 tyX5 tyX5_ok nmX5 hown hK hP hD hS 0 rfl rfl 5 (by decide) (hts (.fieldLink RX5 22 "QuestionLadderModel" "shown" "[I") cm_68) (fun _ h9 => h9) rfl hin rfl (by decide +kernel) rfl rfl (Nat.le_of_ble_eq_true rfl) dX5_init_41 (fun H locs hP hD hS => ?_)
  have hP : va_P D vwCl [(h0, .inr (5, [.int 0, .ref q7, .ref q15, .ref q23, .ref q31, .ref q39, .null, .int 0, .null, .null, .int 0, .int 0, .null, .int 0, .int 0, .int 0, .null, .null, .null, .null, .null, .long 0, .long 0])), (q7, qc_f cI 10 (fun _ => 0)), (q15, qc_f cI 10 (fun _ => 0)), (q23, qc_f cI 10 (fun _ => 0)), (q31, qc_f cI 10 (fun _ => 0)), (q39, qc_f cI 10 (fun _ => 0))] H := hP
  have hD : va_D A [(h0, .inr (5, [.int 0, .ref q7, .ref q15, .ref q23, .ref q31, .ref q39, .null, .int 0, .null, .null, .int 0, .int 0, .null, .int 0, .int 0, .int 0, .null, .null, .null, .null, .null, .long 0, .long 0])), (q7, qc_f cI 10 (fun _ => 0)), (q15, qc_f cI 10 (fun _ => 0)), (q23, qc_f cI 10 (fun _ => 0)), (q31, qc_f cI 10 (fun _ => 0)), (q39, qc_f cI 10 (fun _ => 0))] := hD
  refine lv_aload_n hx hb dX5_init_44 rfl (lv_at hl 0 rfl) ?_
  refine lv_bipush (v := 60) hx hb dX5_init_45 (by decide) ?_
  refine qb_newa (atype := .int) (ty := .int) (N' := 60) (a0 := (60, .inl (fun _ => 0))) hx hb (hts (.arrayClass .int) cm_32) rfl hK hP hD hS hA 0 rfl (fun _ => rfl) (by decide) (by decide) (Nat.le_of_ble_eq_true rfl) (Nat.le_of_ble_eq_true rfl) (Nat.le_of_ble_eq_true rfl) dX5_init_47 (fun q47 H hP hD hS => ?_)
  have hP : va_P D vwCl [(h0, .inr (5, [.int 0, .ref q7, .ref q15, .ref q23, .ref q31, .ref q39, .null, .int 0, .null, .null, .int 0, .int 0, .null, .int 0, .int 0, .int 0, .null, .null, .null, .null, .null, .long 0, .long 0])), (q7, qc_f cI 10 (fun _ => 0)), (q15, qc_f cI 10 (fun _ => 0)), (q23, qc_f cI 10 (fun _ => 0)), (q31, qc_f cI 10 (fun _ => 0)), (q39, qc_f cI 10 (fun _ => 0)), (q47, qc_f cI 60 (fun _ => 0))] H := hP
  have hD : va_D A [(h0, .inr (5, [.int 0, .ref q7, .ref q15, .ref q23, .ref q31, .ref q39, .null, .int 0, .null, .null, .int 0, .int 0, .null, .int 0, .int 0, .int 0, .null, .null, .null, .null, .null, .long 0, .long 0])), (q7, qc_f cI 10 (fun _ => 0)), (q15, qc_f cI 10 (fun _ => 0)), (q23, qc_f cI 10 (fun _ => 0)), (q31, qc_f cI 10 (fun _ => 0)), (q39, qc_f cI 10 (fun _ => 0)), (q47, qc_f cI 60 (fun _ => 0))] := hD
  refine W.widen (k := 6) (n := 110) (by omega) (by omega) ?_
  refine va_putF (D := D) (ci := 5) (v := .ref q47) (ty := .array .int) (C := RX5) (T := TX5) (N := 23) hx hb hts inlX5 tyX5 tyX5_ok nmX5 hown hK hP hD hS 0 rfl rfl 6 (by decide) (hts (.fieldLink RX5 25 "QuestionLadderModel" "chance" "[I") cm_69) (fun _ h9 => h9) rfl hin rfl (by decide +kernel) rfl rfl (Nat.le_of_ble_eq_true rfl) dX5_init_49 (fun H locs hP hD hS => ?_)
  have hP : va_P D vwCl [(h0, .inr (5, [.int 0, .ref q7, .ref q15, .ref q23, .ref q31, .ref q39, .ref q47, .int 0, .null, .null, .int 0, .int 0, .null, .int 0, .int 0, .int 0, .null, .null, .null, .null, .null, .long 0, .long 0])), (q7, qc_f cI 10 (fun _ => 0)), (q15, qc_f cI 10 (fun _ => 0)), (q23, qc_f cI 10 (fun _ => 0)), (q31, qc_f cI 10 (fun _ => 0)), (q39, qc_f cI 10 (fun _ => 0)), (q47, qc_f cI 60 (fun _ => 0))] H := hP
  have hD : va_D A [(h0, .inr (5, [.int 0, .ref q7, .ref q15, .ref q23, .ref q31, .ref q39, .ref q47, .int 0, .null, .null, .int 0, .int 0, .null, .int 0, .int 0, .int 0, .null, .null, .null, .null, .null, .long 0, .long 0])), (q7, qc_f cI 10 (fun _ => 0)), (q15, qc_f cI 10 (fun _ => 0)), (q23, qc_f cI 10 (fun _ => 0)), (q31, qc_f cI 10 (fun _ => 0)), (q39, qc_f cI 10 (fun _ => 0)), (q47, qc_f cI 60 (fun _ => 0))] := hD
  refine lv_aload_n hx hb dX5_init_52 rfl (lv_at hl 0 rfl) ?_
  refine lv_iconst (v := 4) hx hb dX5_init_53 (by decide) ?_
  refine va_put (D := D) (ci := 5) (v := .int 4) (ty := .int) (C := RX5) (T := TX5) (N := 23) hx hb hts inlX5 tyX5 tyX5_ok nmX5 hown hK hP hD hS 0 rfl rfl 7 (by decide) (hts (.fieldLink RX5 28 "QuestionLadderModel" "length" "I") cm_70) (fun _ h9 => h9) rfl (by decide +kernel) rfl rfl (Nat.le_of_ble_eq_true rfl) dX5_init_54 (fun H locs hP hD hS => ?_)
  have hP : va_P D vwCl [(h0, .inr (5, [.int 0, .ref q7, .ref q15, .ref q23, .ref q31, .ref q39, .ref q47, .int 4, .null, .null, .int 0, .int 0, .null, .int 0, .int 0, .int 0, .null, .null, .null, .null, .null, .long 0, .long 0])), (q7, qc_f cI 10 (fun _ => 0)), (q15, qc_f cI 10 (fun _ => 0)), (q23, qc_f cI 10 (fun _ => 0)), (q31, qc_f cI 10 (fun _ => 0)), (q39, qc_f cI 10 (fun _ => 0)), (q47, qc_f cI 60 (fun _ => 0))] H := hP
  have hD : va_D A [(h0, .inr (5, [.int 0, .ref q7, .ref q15, .ref q23, .ref q31, .ref q39, .ref q47, .int 4, .null, .null, .int 0, .int 0, .null, .int 0, .int 0, .int 0, .null, .null, .null, .null, .null, .long 0, .long 0])), (q7, qc_f cI 10 (fun _ => 0)), (q15, qc_f cI 10 (fun _ => 0)), (q23, qc_f cI 10 (fun _ => 0)), (q31, qc_f cI 10 (fun _ => 0)), (q39, qc_f cI 10 (fun _ => 0)), (q47, qc_f cI 60 (fun _ => 0))] := hD
  refine lv_aload_n hx hb dX5_init_57 rfl (lv_at hl 0 rfl) ?_
  refine lv_iconst (v := 3) hx hb dX5_init_58 (by decide) ?_
  refine qb_newa (atype := .int) (ty := .int) (N' := 3) (a0 := (3, .inl (fun _ => 0))) hx hb (hts (.arrayClass .int) cm_32) rfl hK hP hD hS hA 0 rfl (fun _ => rfl) (by decide) (by decide) (Nat.le_of_ble_eq_true rfl) (Nat.le_of_ble_eq_true rfl) (Nat.le_of_ble_eq_true rfl) dX5_init_59 (fun q59 H hP hD hS => ?_)
  have hP : va_P D vwCl [(h0, .inr (5, [.int 0, .ref q7, .ref q15, .ref q23, .ref q31, .ref q39, .ref q47, .int 4, .null, .null, .int 0, .int 0, .null, .int 0, .int 0, .int 0, .null, .null, .null, .null, .null, .long 0, .long 0])), (q7, qc_f cI 10 (fun _ => 0)), (q15, qc_f cI 10 (fun _ => 0)), (q23, qc_f cI 10 (fun _ => 0)), (q31, qc_f cI 10 (fun _ => 0)), (q39, qc_f cI 10 (fun _ => 0)), (q47, qc_f cI 60 (fun _ => 0)), (q59, qc_f cI 3 (fun _ => 0))] H := hP
  have hD : va_D A [(h0, .inr (5, [.int 0, .ref q7, .ref q15, .ref q23, .ref q31, .ref q39, .ref q47, .int 4, .null, .null, .int 0, .int 0, .null, .int 0, .int 0, .int 0, .null, .null, .null, .null, .null, .long 0, .long 0])), (q7, qc_f cI 10 (fun _ => 0)), (q15, qc_f cI 10 (fun _ => 0)), (q23, qc_f cI 10 (fun _ => 0)), (q31, qc_f cI 10 (fun _ => 0)), (q39, qc_f cI 10 (fun _ => 0)), (q47, qc_f cI 60 (fun _ => 0)), (q59, qc_f cI 3 (fun _ => 0))] := hD
  refine W.widen (k := 7) (n := 113) (by omega) (by omega) ?_
  refine va_putF (D := D) (ci := 5) (v := .ref q59) (ty := .array .int) (C := RX5) (T := TX5) (N := 23) hx hb hts inlX5 tyX5 tyX5_ok nmX5 hown hK hP hD hS 0 rfl rfl 8 (by decide) (hts (.fieldLink RX5 32 "QuestionLadderModel" "low" "[I") cm_71) (fun _ h9 => h9) rfl hin rfl (by decide +kernel) rfl rfl (Nat.le_of_ble_eq_true rfl) dX5_init_61 (fun H locs hP hD hS => ?_)
  have hP : va_P D vwCl [(h0, .inr (5, [.int 0, .ref q7, .ref q15, .ref q23, .ref q31, .ref q39, .ref q47, .int 4, .ref q59, .null, .int 0, .int 0, .null, .int 0, .int 0, .int 0, .null, .null, .null, .null, .null, .long 0, .long 0])), (q7, qc_f cI 10 (fun _ => 0)), (q15, qc_f cI 10 (fun _ => 0)), (q23, qc_f cI 10 (fun _ => 0)), (q31, qc_f cI 10 (fun _ => 0)), (q39, qc_f cI 10 (fun _ => 0)), (q47, qc_f cI 60 (fun _ => 0)), (q59, qc_f cI 3 (fun _ => 0))] H := hP
  have hD : va_D A [(h0, .inr (5, [.int 0, .ref q7, .ref q15, .ref q23, .ref q31, .ref q39, .ref q47, .int 4, .ref q59, .null, .int 0, .int 0, .null, .int 0, .int 0, .int 0, .null, .null, .null, .null, .null, .long 0, .long 0])), (q7, qc_f cI 10 (fun _ => 0)), (q15, qc_f cI 10 (fun _ => 0)), (q23, qc_f cI 10 (fun _ => 0)), (q31, qc_f cI 10 (fun _ => 0)), (q39, qc_f cI 10 (fun _ => 0)), (q47, qc_f cI 60 (fun _ => 0)), (q59, qc_f cI 3 (fun _ => 0))] := hD
  refine lv_aload_n hx hb dX5_init_64 rfl (lv_at hl 0 rfl) ?_
  refine lv_iconst (v := 3) hx hb dX5_init_65 (by decide) ?_
  refine qb_newa (atype := .int) (ty := .int) (N' := 3) (a0 := (3, .inl (fun _ => 0))) hx hb (hts (.arrayClass .int) cm_32) rfl hK hP hD hS hA 0 rfl (fun _ => rfl) (by decide) (by decide) (Nat.le_of_ble_eq_true rfl) (Nat.le_of_ble_eq_true rfl) (Nat.le_of_ble_eq_true rfl) dX5_init_66 (fun q66 H hP hD hS => ?_)
  have hP : va_P D vwCl [(h0, .inr (5, [.int 0, .ref q7, .ref q15, .ref q23, .ref q31, .ref q39, .ref q47, .int 4, .ref q59, .null, .int 0, .int 0, .null, .int 0, .int 0, .int 0, .null, .null, .null, .null, .null, .long 0, .long 0])), (q7, qc_f cI 10 (fun _ => 0)), (q15, qc_f cI 10 (fun _ => 0)), (q23, qc_f cI 10 (fun _ => 0)), (q31, qc_f cI 10 (fun _ => 0)), (q39, qc_f cI 10 (fun _ => 0)), (q47, qc_f cI 60 (fun _ => 0)), (q59, qc_f cI 3 (fun _ => 0)), (q66, qc_f cI 3 (fun _ => 0))] H := hP
  have hD : va_D A [(h0, .inr (5, [.int 0, .ref q7, .ref q15, .ref q23, .ref q31, .ref q39, .ref q47, .int 4, .ref q59, .null, .int 0, .int 0, .null, .int 0, .int 0, .int 0, .null, .null, .null, .null, .null, .long 0, .long 0])), (q7, qc_f cI 10 (fun _ => 0)), (q15, qc_f cI 10 (fun _ => 0)), (q23, qc_f cI 10 (fun _ => 0)), (q31, qc_f cI 10 (fun _ => 0)), (q39, qc_f cI 10 (fun _ => 0)), (q47, qc_f cI 60 (fun _ => 0)), (q59, qc_f cI 3 (fun _ => 0)), (q66, qc_f cI 3 (fun _ => 0))] := hD
  refine W.widen (k := 8) (n := 116) (by omega) (by omega) ?_
  refine lv_dup hx hb dX5_init_68 rfl ?_
  refine lv_iconst (v := 0) hx hb dX5_init_69 (by decide) ?_
  refine lv_bipush (v := 6) hx hb dX5_init_70 (by decide) ?_
  refine va_iast (i := 0) (x := 6) hx hb hK hP hD hS 8 0 rfl rfl (show ¬ ((0 : Int32) < 0 ∨ 3 ≤ (0 : Int32).toNatClampNeg) by decide) dX5_init_72 (fun H locs hP hD hS => ?_)
  have hP : va_P D vwCl [(h0, .inr (5, [.int 0, .ref q7, .ref q15, .ref q23, .ref q31, .ref q39, .ref q47, .int 4, .ref q59, .null, .int 0, .int 0, .null, .int 0, .int 0, .int 0, .null, .null, .null, .null, .null, .long 0, .long 0])), (q7, qc_f cI 10 (fun _ => 0)), (q15, qc_f cI 10 (fun _ => 0)), (q23, qc_f cI 10 (fun _ => 0)), (q31, qc_f cI 10 (fun _ => 0)), (q39, qc_f cI 10 (fun _ => 0)), (q47, qc_f cI 60 (fun _ => 0)), (q59, qc_f cI 3 (fun _ => 0)), (q66, qc_f cI 3 (upd (fun _ => 0) 0 6))] H := hP
  have hD : va_D A [(h0, .inr (5, [.int 0, .ref q7, .ref q15, .ref q23, .ref q31, .ref q39, .ref q47, .int 4, .ref q59, .null, .int 0, .int 0, .null, .int 0, .int 0, .int 0, .null, .null, .null, .null, .null, .long 0, .long 0])), (q7, qc_f cI 10 (fun _ => 0)), (q15, qc_f cI 10 (fun _ => 0)), (q23, qc_f cI 10 (fun _ => 0)), (q31, qc_f cI 10 (fun _ => 0)), (q39, qc_f cI 10 (fun _ => 0)), (q47, qc_f cI 60 (fun _ => 0)), (q59, qc_f cI 3 (fun _ => 0)), (q66, qc_f cI 3 (upd (fun _ => 0) 0 6))] := hD
  refine lv_dup hx hb dX5_init_73 rfl ?_
  refine lv_iconst (v := 1) hx hb dX5_init_74 (by decide) ?_
  refine lv_bipush (v := 6) hx hb dX5_init_75 (by decide) ?_
  refine va_iast (i := 1) (x := 6) hx hb hK hP hD hS 8 0 rfl rfl (show ¬ ((1 : Int32) < 0 ∨ 3 ≤ (1 : Int32).toNatClampNeg) by decide) dX5_init_77 (fun H locs hP hD hS => ?_)
  have hP : va_P D vwCl [(h0, .inr (5, [.int 0, .ref q7, .ref q15, .ref q23, .ref q31, .ref q39, .ref q47, .int 4, .ref q59, .null, .int 0, .int 0, .null, .int 0, .int 0, .int 0, .null, .null, .null, .null, .null, .long 0, .long 0])), (q7, qc_f cI 10 (fun _ => 0)), (q15, qc_f cI 10 (fun _ => 0)), (q23, qc_f cI 10 (fun _ => 0)), (q31, qc_f cI 10 (fun _ => 0)), (q39, qc_f cI 10 (fun _ => 0)), (q47, qc_f cI 60 (fun _ => 0)), (q59, qc_f cI 3 (fun _ => 0)), (q66, qc_f cI 3 (upd (upd (fun _ => 0) 0 6) 1 6))] H := hP
  have hD : va_D A [(h0, .inr (5, [.int 0, .ref q7, .ref q15, .ref q23, .ref q31, .ref q39, .ref q47, .int 4, .ref q59, .null, .int 0, .int 0, .null, .int 0, .int 0, .int 0, .null, .null, .null, .null, .null, .long 0, .long 0])), (q7, qc_f cI 10 (fun _ => 0)), (q15, qc_f cI 10 (fun _ => 0)), (q23, qc_f cI 10 (fun _ => 0)), (q31, qc_f cI 10 (fun _ => 0)), (q39, qc_f cI 10 (fun _ => 0)), (q47, qc_f cI 60 (fun _ => 0)), (q59, qc_f cI 3 (fun _ => 0)), (q66, qc_f cI 3 (upd (upd (fun _ => 0) 0 6) 1 6))] := hD
  refine lv_dup hx hb dX5_init_78 rfl ?_
  refine lv_iconst (v := 2) hx hb dX5_init_79 (by decide) ?_
  refine lv_bipush (v := 6) hx hb dX5_init_80 (by decide) ?_
  refine va_iast (i := 2) (x := 6) hx hb hK hP hD hS 8 0 rfl rfl (show ¬ ((2 : Int32) < 0 ∨ 3 ≤ (2 : Int32).toNatClampNeg) by decide) dX5_init_82 (fun H locs hP hD hS => ?_)
  have hP : va_P D vwCl [(h0, .inr (5, [.int 0, .ref q7, .ref q15, .ref q23, .ref q31, .ref q39, .ref q47, .int 4, .ref q59, .null, .int 0, .int 0, .null, .int 0, .int 0, .int 0, .null, .null, .null, .null, .null, .long 0, .long 0])), (q7, qc_f cI 10 (fun _ => 0)), (q15, qc_f cI 10 (fun _ => 0)), (q23, qc_f cI 10 (fun _ => 0)), (q31, qc_f cI 10 (fun _ => 0)), (q39, qc_f cI 10 (fun _ => 0)), (q47, qc_f cI 60 (fun _ => 0)), (q59, qc_f cI 3 (fun _ => 0)), (q66, qc_f cI 3 (upd (upd (upd (fun _ => 0) 0 6) 1 6) 2 6))] H := hP
  have hD : va_D A [(h0, .inr (5, [.int 0, .ref q7, .ref q15, .ref q23, .ref q31, .ref q39, .ref q47, .int 4, .ref q59, .null, .int 0, .int 0, .null, .int 0, .int 0, .int 0, .null, .null, .null, .null, .null, .long 0, .long 0])), (q7, qc_f cI 10 (fun _ => 0)), (q15, qc_f cI 10 (fun _ => 0)), (q23, qc_f cI 10 (fun _ => 0)), (q31, qc_f cI 10 (fun _ => 0)), (q39, qc_f cI 10 (fun _ => 0)), (q47, qc_f cI 60 (fun _ => 0)), (q59, qc_f cI 3 (fun _ => 0)), (q66, qc_f cI 3 (upd (upd (upd (fun _ => 0) 0 6) 1 6) 2 6))] := hD
  refine va_putF (D := D) (ci := 5) (v := .ref q66) (ty := .array .int) (C := RX5) (T := TX5) (N := 23) hx hb hts inlX5 tyX5 tyX5_ok nmX5 hown hK hP hD hS 0 rfl rfl 9 (by decide) (hts (.fieldLink RX5 35 "QuestionLadderModel" "high" "[I") cm_72) (fun _ h9 => h9) rfl hin rfl (by decide +kernel) rfl rfl (Nat.le_of_ble_eq_true rfl) dX5_init_83 (fun H locs hP hD hS => ?_)
  have hP : va_P D vwCl [(h0, .inr (5, [.int 0, .ref q7, .ref q15, .ref q23, .ref q31, .ref q39, .ref q47, .int 4, .ref q59, .ref q66, .int 0, .int 0, .null, .int 0, .int 0, .int 0, .null, .null, .null, .null, .null, .long 0, .long 0])), (q7, qc_f cI 10 (fun _ => 0)), (q15, qc_f cI 10 (fun _ => 0)), (q23, qc_f cI 10 (fun _ => 0)), (q31, qc_f cI 10 (fun _ => 0)), (q39, qc_f cI 10 (fun _ => 0)), (q47, qc_f cI 60 (fun _ => 0)), (q59, qc_f cI 3 (fun _ => 0)), (q66, qc_f cI 3 (upd (upd (upd (fun _ => 0) 0 6) 1 6) 2 6))] H := hP
  have hD : va_D A [(h0, .inr (5, [.int 0, .ref q7, .ref q15, .ref q23, .ref q31, .ref q39, .ref q47, .int 4, .ref q59, .ref q66, .int 0, .int 0, .null, .int 0, .int 0, .int 0, .null, .null, .null, .null, .null, .long 0, .long 0])), (q7, qc_f cI 10 (fun _ => 0)), (q15, qc_f cI 10 (fun _ => 0)), (q23, qc_f cI 10 (fun _ => 0)), (q31, qc_f cI 10 (fun _ => 0)), (q39, qc_f cI 10 (fun _ => 0)), (q47, qc_f cI 60 (fun _ => 0)), (q59, qc_f cI 3 (fun _ => 0)), (q66, qc_f cI 3 (upd (upd (upd (fun _ => 0) 0 6) 1 6) 2 6))] := hD
  refine lv_aload_n hx hb dX5_init_86 rfl (lv_at hl 0 rfl) ?_
  refine lv_bipush (v := 9) hx hb dX5_init_87 (by decide) ?_
  refine va_put (D := D) (ci := 5) (v := .int 9) (ty := .int) (C := RX5) (T := TX5) (N := 23) hx hb hts inlX5 tyX5 tyX5_ok nmX5 hown hK hP hD hS 0 rfl rfl 10 (by decide) (hts (.fieldLink RX5 38 "QuestionLadderModel" "sureOf" "I") cm_73) (fun _ h9 => h9) rfl (by decide +kernel) rfl rfl (Nat.le_of_ble_eq_true rfl) dX5_init_89 (fun H locs hP hD hS => ?_)
  have hP : va_P D vwCl [(h0, .inr (5, [.int 0, .ref q7, .ref q15, .ref q23, .ref q31, .ref q39, .ref q47, .int 4, .ref q59, .ref q66, .int 9, .int 0, .null, .int 0, .int 0, .int 0, .null, .null, .null, .null, .null, .long 0, .long 0])), (q7, qc_f cI 10 (fun _ => 0)), (q15, qc_f cI 10 (fun _ => 0)), (q23, qc_f cI 10 (fun _ => 0)), (q31, qc_f cI 10 (fun _ => 0)), (q39, qc_f cI 10 (fun _ => 0)), (q47, qc_f cI 60 (fun _ => 0)), (q59, qc_f cI 3 (fun _ => 0)), (q66, qc_f cI 3 (upd (upd (upd (fun _ => 0) 0 6) 1 6) 2 6))] H := hP
  have hD : va_D A [(h0, .inr (5, [.int 0, .ref q7, .ref q15, .ref q23, .ref q31, .ref q39, .ref q47, .int 4, .ref q59, .ref q66, .int 9, .int 0, .null, .int 0, .int 0, .int 0, .null, .null, .null, .null, .null, .long 0, .long 0])), (q7, qc_f cI 10 (fun _ => 0)), (q15, qc_f cI 10 (fun _ => 0)), (q23, qc_f cI 10 (fun _ => 0)), (q31, qc_f cI 10 (fun _ => 0)), (q39, qc_f cI 10 (fun _ => 0)), (q47, qc_f cI 60 (fun _ => 0)), (q59, qc_f cI 3 (fun _ => 0)), (q66, qc_f cI 3 (upd (upd (upd (fun _ => 0) 0 6) 1 6) 2 6))] := hD
  refine lv_aload_n hx hb dX5_init_92 rfl (lv_at hl 0 rfl) ?_
  refine lv_bipush (v := 10) hx hb dX5_init_93 (by decide) ?_
  refine va_put (D := D) (ci := 5) (v := .int 10) (ty := .int) (C := RX5) (T := TX5) (N := 23) hx hb hts inlX5 tyX5 tyX5_ok nmX5 hown hK hP hD hS 0 rfl rfl 11 (by decide) (hts (.fieldLink RX5 41 "QuestionLadderModel" "sureBy" "I") cm_74) (fun _ h9 => h9) rfl (by decide +kernel) rfl rfl (Nat.le_of_ble_eq_true rfl) dX5_init_95 (fun H locs hP hD hS => ?_)
  have hP : va_P D vwCl [(h0, .inr (5, [.int 0, .ref q7, .ref q15, .ref q23, .ref q31, .ref q39, .ref q47, .int 4, .ref q59, .ref q66, .int 9, .int 10, .null, .int 0, .int 0, .int 0, .null, .null, .null, .null, .null, .long 0, .long 0])), (q7, qc_f cI 10 (fun _ => 0)), (q15, qc_f cI 10 (fun _ => 0)), (q23, qc_f cI 10 (fun _ => 0)), (q31, qc_f cI 10 (fun _ => 0)), (q39, qc_f cI 10 (fun _ => 0)), (q47, qc_f cI 60 (fun _ => 0)), (q59, qc_f cI 3 (fun _ => 0)), (q66, qc_f cI 3 (upd (upd (upd (fun _ => 0) 0 6) 1 6) 2 6))] H := hP
  have hD : va_D A [(h0, .inr (5, [.int 0, .ref q7, .ref q15, .ref q23, .ref q31, .ref q39, .ref q47, .int 4, .ref q59, .ref q66, .int 9, .int 10, .null, .int 0, .int 0, .int 0, .null, .null, .null, .null, .null, .long 0, .long 0])), (q7, qc_f cI 10 (fun _ => 0)), (q15, qc_f cI 10 (fun _ => 0)), (q23, qc_f cI 10 (fun _ => 0)), (q31, qc_f cI 10 (fun _ => 0)), (q39, qc_f cI 10 (fun _ => 0)), (q47, qc_f cI 60 (fun _ => 0)), (q59, qc_f cI 3 (fun _ => 0)), (q66, qc_f cI 3 (upd (upd (upd (fun _ => 0) 0 6) 1 6) 2 6))] := hD
  refine lv_aload_n hx hb dX5_init_98 rfl (lv_at hl 0 rfl) ?_
  refine lv_bipush (v := 6) hx hb dX5_init_99 (by decide) ?_
  refine qb_newa (atype := .int) (ty := .int) (N' := 6) (a0 := (6, .inl (fun _ => 0))) hx hb (hts (.arrayClass .int) cm_32) rfl hK hP hD hS hA 0 rfl (fun _ => rfl) (by decide) (by decide) (Nat.le_of_ble_eq_true rfl) (Nat.le_of_ble_eq_true rfl) (Nat.le_of_ble_eq_true rfl) dX5_init_101 (fun q101 H hP hD hS => ?_)
  have hP : va_P D vwCl [(h0, .inr (5, [.int 0, .ref q7, .ref q15, .ref q23, .ref q31, .ref q39, .ref q47, .int 4, .ref q59, .ref q66, .int 9, .int 10, .null, .int 0, .int 0, .int 0, .null, .null, .null, .null, .null, .long 0, .long 0])), (q7, qc_f cI 10 (fun _ => 0)), (q15, qc_f cI 10 (fun _ => 0)), (q23, qc_f cI 10 (fun _ => 0)), (q31, qc_f cI 10 (fun _ => 0)), (q39, qc_f cI 10 (fun _ => 0)), (q47, qc_f cI 60 (fun _ => 0)), (q59, qc_f cI 3 (fun _ => 0)), (q66, qc_f cI 3 (upd (upd (upd (fun _ => 0) 0 6) 1 6) 2 6)), (q101, qc_f cI 6 (fun _ => 0))] H := hP
  have hD : va_D A [(h0, .inr (5, [.int 0, .ref q7, .ref q15, .ref q23, .ref q31, .ref q39, .ref q47, .int 4, .ref q59, .ref q66, .int 9, .int 10, .null, .int 0, .int 0, .int 0, .null, .null, .null, .null, .null, .long 0, .long 0])), (q7, qc_f cI 10 (fun _ => 0)), (q15, qc_f cI 10 (fun _ => 0)), (q23, qc_f cI 10 (fun _ => 0)), (q31, qc_f cI 10 (fun _ => 0)), (q39, qc_f cI 10 (fun _ => 0)), (q47, qc_f cI 60 (fun _ => 0)), (q59, qc_f cI 3 (fun _ => 0)), (q66, qc_f cI 3 (upd (upd (upd (fun _ => 0) 0 6) 1 6) 2 6)), (q101, qc_f cI 6 (fun _ => 0))] := hD
  refine W.widen (k := 9) (n := 122) (by omega) (by omega) ?_
  refine lv_dup hx hb dX5_init_103 rfl ?_
  refine lv_iconst (v := 0) hx hb dX5_init_104 (by decide) ?_
  refine lv_iconst (v := 1) hx hb dX5_init_105 (by decide) ?_
  refine va_iast (i := 0) (x := 1) hx hb hK hP hD hS 9 0 rfl rfl (show ¬ ((0 : Int32) < 0 ∨ 6 ≤ (0 : Int32).toNatClampNeg) by decide) dX5_init_106 (fun H locs hP hD hS => ?_)
  have hP : va_P D vwCl [(h0, .inr (5, [.int 0, .ref q7, .ref q15, .ref q23, .ref q31, .ref q39, .ref q47, .int 4, .ref q59, .ref q66, .int 9, .int 10, .null, .int 0, .int 0, .int 0, .null, .null, .null, .null, .null, .long 0, .long 0])), (q7, qc_f cI 10 (fun _ => 0)), (q15, qc_f cI 10 (fun _ => 0)), (q23, qc_f cI 10 (fun _ => 0)), (q31, qc_f cI 10 (fun _ => 0)), (q39, qc_f cI 10 (fun _ => 0)), (q47, qc_f cI 60 (fun _ => 0)), (q59, qc_f cI 3 (fun _ => 0)), (q66, qc_f cI 3 (upd (upd (upd (fun _ => 0) 0 6) 1 6) 2 6)), (q101, qc_f cI 6 (upd (fun _ => 0) 0 1))] H := hP
  have hD : va_D A [(h0, .inr (5, [.int 0, .ref q7, .ref q15, .ref q23, .ref q31, .ref q39, .ref q47, .int 4, .ref q59, .ref q66, .int 9, .int 10, .null, .int 0, .int 0, .int 0, .null, .null, .null, .null, .null, .long 0, .long 0])), (q7, qc_f cI 10 (fun _ => 0)), (q15, qc_f cI 10 (fun _ => 0)), (q23, qc_f cI 10 (fun _ => 0)), (q31, qc_f cI 10 (fun _ => 0)), (q39, qc_f cI 10 (fun _ => 0)), (q47, qc_f cI 60 (fun _ => 0)), (q59, qc_f cI 3 (fun _ => 0)), (q66, qc_f cI 3 (upd (upd (upd (fun _ => 0) 0 6) 1 6) 2 6)), (q101, qc_f cI 6 (upd (fun _ => 0) 0 1))] := hD
  refine lv_dup hx hb dX5_init_107 rfl ?_
  refine lv_iconst (v := 1) hx hb dX5_init_108 (by decide) ?_
  refine lv_iconst (v := 1) hx hb dX5_init_109 (by decide) ?_
  refine va_iast (i := 1) (x := 1) hx hb hK hP hD hS 9 0 rfl rfl (show ¬ ((1 : Int32) < 0 ∨ 6 ≤ (1 : Int32).toNatClampNeg) by decide) dX5_init_110 (fun H locs hP hD hS => ?_)
  have hP : va_P D vwCl [(h0, .inr (5, [.int 0, .ref q7, .ref q15, .ref q23, .ref q31, .ref q39, .ref q47, .int 4, .ref q59, .ref q66, .int 9, .int 10, .null, .int 0, .int 0, .int 0, .null, .null, .null, .null, .null, .long 0, .long 0])), (q7, qc_f cI 10 (fun _ => 0)), (q15, qc_f cI 10 (fun _ => 0)), (q23, qc_f cI 10 (fun _ => 0)), (q31, qc_f cI 10 (fun _ => 0)), (q39, qc_f cI 10 (fun _ => 0)), (q47, qc_f cI 60 (fun _ => 0)), (q59, qc_f cI 3 (fun _ => 0)), (q66, qc_f cI 3 (upd (upd (upd (fun _ => 0) 0 6) 1 6) 2 6)), (q101, qc_f cI 6 (upd (upd (fun _ => 0) 0 1) 1 1))] H := hP
  have hD : va_D A [(h0, .inr (5, [.int 0, .ref q7, .ref q15, .ref q23, .ref q31, .ref q39, .ref q47, .int 4, .ref q59, .ref q66, .int 9, .int 10, .null, .int 0, .int 0, .int 0, .null, .null, .null, .null, .null, .long 0, .long 0])), (q7, qc_f cI 10 (fun _ => 0)), (q15, qc_f cI 10 (fun _ => 0)), (q23, qc_f cI 10 (fun _ => 0)), (q31, qc_f cI 10 (fun _ => 0)), (q39, qc_f cI 10 (fun _ => 0)), (q47, qc_f cI 60 (fun _ => 0)), (q59, qc_f cI 3 (fun _ => 0)), (q66, qc_f cI 3 (upd (upd (upd (fun _ => 0) 0 6) 1 6) 2 6)), (q101, qc_f cI 6 (upd (upd (fun _ => 0) 0 1) 1 1))] := hD
  refine lv_dup hx hb dX5_init_111 rfl ?_
  refine lv_iconst (v := 2) hx hb dX5_init_112 (by decide) ?_
  refine lv_iconst (v := 1) hx hb dX5_init_113 (by decide) ?_
  refine va_iast (i := 2) (x := 1) hx hb hK hP hD hS 9 0 rfl rfl (show ¬ ((2 : Int32) < 0 ∨ 6 ≤ (2 : Int32).toNatClampNeg) by decide) dX5_init_114 (fun H locs hP hD hS => ?_)
  have hP : va_P D vwCl [(h0, .inr (5, [.int 0, .ref q7, .ref q15, .ref q23, .ref q31, .ref q39, .ref q47, .int 4, .ref q59, .ref q66, .int 9, .int 10, .null, .int 0, .int 0, .int 0, .null, .null, .null, .null, .null, .long 0, .long 0])), (q7, qc_f cI 10 (fun _ => 0)), (q15, qc_f cI 10 (fun _ => 0)), (q23, qc_f cI 10 (fun _ => 0)), (q31, qc_f cI 10 (fun _ => 0)), (q39, qc_f cI 10 (fun _ => 0)), (q47, qc_f cI 60 (fun _ => 0)), (q59, qc_f cI 3 (fun _ => 0)), (q66, qc_f cI 3 (upd (upd (upd (fun _ => 0) 0 6) 1 6) 2 6)), (q101, qc_f cI 6 (upd (upd (upd (fun _ => 0) 0 1) 1 1) 2 1))] H := hP
  have hD : va_D A [(h0, .inr (5, [.int 0, .ref q7, .ref q15, .ref q23, .ref q31, .ref q39, .ref q47, .int 4, .ref q59, .ref q66, .int 9, .int 10, .null, .int 0, .int 0, .int 0, .null, .null, .null, .null, .null, .long 0, .long 0])), (q7, qc_f cI 10 (fun _ => 0)), (q15, qc_f cI 10 (fun _ => 0)), (q23, qc_f cI 10 (fun _ => 0)), (q31, qc_f cI 10 (fun _ => 0)), (q39, qc_f cI 10 (fun _ => 0)), (q47, qc_f cI 60 (fun _ => 0)), (q59, qc_f cI 3 (fun _ => 0)), (q66, qc_f cI 3 (upd (upd (upd (fun _ => 0) 0 6) 1 6) 2 6)), (q101, qc_f cI 6 (upd (upd (upd (fun _ => 0) 0 1) 1 1) 2 1))] := hD
  refine lv_dup hx hb dX5_init_115 rfl ?_
  refine lv_iconst (v := 3) hx hb dX5_init_116 (by decide) ?_
  refine lv_iconst (v := 1) hx hb dX5_init_117 (by decide) ?_
  refine va_iast (i := 3) (x := 1) hx hb hK hP hD hS 9 0 rfl rfl (show ¬ ((3 : Int32) < 0 ∨ 6 ≤ (3 : Int32).toNatClampNeg) by decide) dX5_init_118 (fun H locs hP hD hS => ?_)
  have hP : va_P D vwCl [(h0, .inr (5, [.int 0, .ref q7, .ref q15, .ref q23, .ref q31, .ref q39, .ref q47, .int 4, .ref q59, .ref q66, .int 9, .int 10, .null, .int 0, .int 0, .int 0, .null, .null, .null, .null, .null, .long 0, .long 0])), (q7, qc_f cI 10 (fun _ => 0)), (q15, qc_f cI 10 (fun _ => 0)), (q23, qc_f cI 10 (fun _ => 0)), (q31, qc_f cI 10 (fun _ => 0)), (q39, qc_f cI 10 (fun _ => 0)), (q47, qc_f cI 60 (fun _ => 0)), (q59, qc_f cI 3 (fun _ => 0)), (q66, qc_f cI 3 (upd (upd (upd (fun _ => 0) 0 6) 1 6) 2 6)), (q101, qc_f cI 6 (upd (upd (upd (upd (fun _ => 0) 0 1) 1 1) 2 1) 3 1))] H := hP
  have hD : va_D A [(h0, .inr (5, [.int 0, .ref q7, .ref q15, .ref q23, .ref q31, .ref q39, .ref q47, .int 4, .ref q59, .ref q66, .int 9, .int 10, .null, .int 0, .int 0, .int 0, .null, .null, .null, .null, .null, .long 0, .long 0])), (q7, qc_f cI 10 (fun _ => 0)), (q15, qc_f cI 10 (fun _ => 0)), (q23, qc_f cI 10 (fun _ => 0)), (q31, qc_f cI 10 (fun _ => 0)), (q39, qc_f cI 10 (fun _ => 0)), (q47, qc_f cI 60 (fun _ => 0)), (q59, qc_f cI 3 (fun _ => 0)), (q66, qc_f cI 3 (upd (upd (upd (fun _ => 0) 0 6) 1 6) 2 6)), (q101, qc_f cI 6 (upd (upd (upd (upd (fun _ => 0) 0 1) 1 1) 2 1) 3 1))] := hD
  refine lv_dup hx hb dX5_init_119 rfl ?_
  refine lv_iconst (v := 4) hx hb dX5_init_120 (by decide) ?_
  refine lv_iconst (v := 1) hx hb dX5_init_121 (by decide) ?_
  refine va_iast (i := 4) (x := 1) hx hb hK hP hD hS 9 0 rfl rfl (show ¬ ((4 : Int32) < 0 ∨ 6 ≤ (4 : Int32).toNatClampNeg) by decide) dX5_init_122 (fun H locs hP hD hS => ?_)
  have hP : va_P D vwCl [(h0, .inr (5, [.int 0, .ref q7, .ref q15, .ref q23, .ref q31, .ref q39, .ref q47, .int 4, .ref q59, .ref q66, .int 9, .int 10, .null, .int 0, .int 0, .int 0, .null, .null, .null, .null, .null, .long 0, .long 0])), (q7, qc_f cI 10 (fun _ => 0)), (q15, qc_f cI 10 (fun _ => 0)), (q23, qc_f cI 10 (fun _ => 0)), (q31, qc_f cI 10 (fun _ => 0)), (q39, qc_f cI 10 (fun _ => 0)), (q47, qc_f cI 60 (fun _ => 0)), (q59, qc_f cI 3 (fun _ => 0)), (q66, qc_f cI 3 (upd (upd (upd (fun _ => 0) 0 6) 1 6) 2 6)), (q101, qc_f cI 6 (upd (upd (upd (upd (upd (fun _ => 0) 0 1) 1 1) 2 1) 3 1) 4 1))] H := hP
  have hD : va_D A [(h0, .inr (5, [.int 0, .ref q7, .ref q15, .ref q23, .ref q31, .ref q39, .ref q47, .int 4, .ref q59, .ref q66, .int 9, .int 10, .null, .int 0, .int 0, .int 0, .null, .null, .null, .null, .null, .long 0, .long 0])), (q7, qc_f cI 10 (fun _ => 0)), (q15, qc_f cI 10 (fun _ => 0)), (q23, qc_f cI 10 (fun _ => 0)), (q31, qc_f cI 10 (fun _ => 0)), (q39, qc_f cI 10 (fun _ => 0)), (q47, qc_f cI 60 (fun _ => 0)), (q59, qc_f cI 3 (fun _ => 0)), (q66, qc_f cI 3 (upd (upd (upd (fun _ => 0) 0 6) 1 6) 2 6)), (q101, qc_f cI 6 (upd (upd (upd (upd (upd (fun _ => 0) 0 1) 1 1) 2 1) 3 1) 4 1))] := hD
  refine lv_dup hx hb dX5_init_123 rfl ?_
  refine lv_iconst (v := 5) hx hb dX5_init_124 (by decide) ?_
  refine lv_iconst (v := 1) hx hb dX5_init_125 (by decide) ?_
  refine va_iast (i := 5) (x := 1) hx hb hK hP hD hS 9 0 rfl rfl (show ¬ ((5 : Int32) < 0 ∨ 6 ≤ (5 : Int32).toNatClampNeg) by decide) dX5_init_126 (fun H locs hP hD hS => ?_)
  have hP : va_P D vwCl [(h0, .inr (5, [.int 0, .ref q7, .ref q15, .ref q23, .ref q31, .ref q39, .ref q47, .int 4, .ref q59, .ref q66, .int 9, .int 10, .null, .int 0, .int 0, .int 0, .null, .null, .null, .null, .null, .long 0, .long 0])), (q7, qc_f cI 10 (fun _ => 0)), (q15, qc_f cI 10 (fun _ => 0)), (q23, qc_f cI 10 (fun _ => 0)), (q31, qc_f cI 10 (fun _ => 0)), (q39, qc_f cI 10 (fun _ => 0)), (q47, qc_f cI 60 (fun _ => 0)), (q59, qc_f cI 3 (fun _ => 0)), (q66, qc_f cI 3 (upd (upd (upd (fun _ => 0) 0 6) 1 6) 2 6)), (q101, qc_f cI 6 (upd (upd (upd (upd (upd (upd (fun _ => 0) 0 1) 1 1) 2 1) 3 1) 4 1) 5 1))] H := hP
  have hD : va_D A [(h0, .inr (5, [.int 0, .ref q7, .ref q15, .ref q23, .ref q31, .ref q39, .ref q47, .int 4, .ref q59, .ref q66, .int 9, .int 10, .null, .int 0, .int 0, .int 0, .null, .null, .null, .null, .null, .long 0, .long 0])), (q7, qc_f cI 10 (fun _ => 0)), (q15, qc_f cI 10 (fun _ => 0)), (q23, qc_f cI 10 (fun _ => 0)), (q31, qc_f cI 10 (fun _ => 0)), (q39, qc_f cI 10 (fun _ => 0)), (q47, qc_f cI 60 (fun _ => 0)), (q59, qc_f cI 3 (fun _ => 0)), (q66, qc_f cI 3 (upd (upd (upd (fun _ => 0) 0 6) 1 6) 2 6)), (q101, qc_f cI 6 (upd (upd (upd (upd (upd (upd (fun _ => 0) 0 1) 1 1) 2 1) 3 1) 4 1) 5 1))] := hD
  refine va_putF (D := D) (ci := 5) (v := .ref q101) (ty := .array .int) (C := RX5) (T := TX5) (N := 23) hx hb hts inlX5 tyX5 tyX5_ok nmX5 hown hK hP hD hS 0 rfl rfl 12 (by decide) (hts (.fieldLink RX5 44 "QuestionLadderModel" "first" "[I") cm_75) (fun _ h9 => h9) rfl hin rfl (by decide +kernel) rfl rfl (Nat.le_of_ble_eq_true rfl) dX5_init_127 (fun H locs hP hD hS => ?_)
  have hP : va_P D vwCl [(h0, .inr (5, [.int 0, .ref q7, .ref q15, .ref q23, .ref q31, .ref q39, .ref q47, .int 4, .ref q59, .ref q66, .int 9, .int 10, .ref q101, .int 0, .int 0, .int 0, .null, .null, .null, .null, .null, .long 0, .long 0])), (q7, qc_f cI 10 (fun _ => 0)), (q15, qc_f cI 10 (fun _ => 0)), (q23, qc_f cI 10 (fun _ => 0)), (q31, qc_f cI 10 (fun _ => 0)), (q39, qc_f cI 10 (fun _ => 0)), (q47, qc_f cI 60 (fun _ => 0)), (q59, qc_f cI 3 (fun _ => 0)), (q66, qc_f cI 3 (upd (upd (upd (fun _ => 0) 0 6) 1 6) 2 6)), (q101, qc_f cI 6 (upd (upd (upd (upd (upd (upd (fun _ => 0) 0 1) 1 1) 2 1) 3 1) 4 1) 5 1))] H := hP
  have hD : va_D A [(h0, .inr (5, [.int 0, .ref q7, .ref q15, .ref q23, .ref q31, .ref q39, .ref q47, .int 4, .ref q59, .ref q66, .int 9, .int 10, .ref q101, .int 0, .int 0, .int 0, .null, .null, .null, .null, .null, .long 0, .long 0])), (q7, qc_f cI 10 (fun _ => 0)), (q15, qc_f cI 10 (fun _ => 0)), (q23, qc_f cI 10 (fun _ => 0)), (q31, qc_f cI 10 (fun _ => 0)), (q39, qc_f cI 10 (fun _ => 0)), (q47, qc_f cI 60 (fun _ => 0)), (q59, qc_f cI 3 (fun _ => 0)), (q66, qc_f cI 3 (upd (upd (upd (fun _ => 0) 0 6) 1 6) 2 6)), (q101, qc_f cI 6 (upd (upd (upd (upd (upd (upd (fun _ => 0) 0 1) 1 1) 2 1) 3 1) 4 1) 5 1))] := hD
  refine lv_aload_n hx hb dX5_init_130 rfl (lv_at hl 0 rfl) ?_
  refine lv_bipush (v := 16) hx hb dX5_init_131 (by decide) ?_
  refine qb_newa (atype := .int) (ty := .int) (N' := 16) (a0 := (16, .inl (fun _ => 0))) hx hb (hts (.arrayClass .int) cm_32) rfl hK hP hD hS hA 0 rfl (fun _ => rfl) (by decide) (by decide) (Nat.le_of_ble_eq_true rfl) (Nat.le_of_ble_eq_true rfl) (Nat.le_of_ble_eq_true rfl) dX5_init_133 (fun q133 H hP hD hS => ?_)
  have hP : va_P D vwCl [(h0, .inr (5, [.int 0, .ref q7, .ref q15, .ref q23, .ref q31, .ref q39, .ref q47, .int 4, .ref q59, .ref q66, .int 9, .int 10, .ref q101, .int 0, .int 0, .int 0, .null, .null, .null, .null, .null, .long 0, .long 0])), (q7, qc_f cI 10 (fun _ => 0)), (q15, qc_f cI 10 (fun _ => 0)), (q23, qc_f cI 10 (fun _ => 0)), (q31, qc_f cI 10 (fun _ => 0)), (q39, qc_f cI 10 (fun _ => 0)), (q47, qc_f cI 60 (fun _ => 0)), (q59, qc_f cI 3 (fun _ => 0)), (q66, qc_f cI 3 (upd (upd (upd (fun _ => 0) 0 6) 1 6) 2 6)), (q101, qc_f cI 6 (upd (upd (upd (upd (upd (upd (fun _ => 0) 0 1) 1 1) 2 1) 3 1) 4 1) 5 1)), (q133, qc_f cI 16 (fun _ => 0))] H := hP
  have hD : va_D A [(h0, .inr (5, [.int 0, .ref q7, .ref q15, .ref q23, .ref q31, .ref q39, .ref q47, .int 4, .ref q59, .ref q66, .int 9, .int 10, .ref q101, .int 0, .int 0, .int 0, .null, .null, .null, .null, .null, .long 0, .long 0])), (q7, qc_f cI 10 (fun _ => 0)), (q15, qc_f cI 10 (fun _ => 0)), (q23, qc_f cI 10 (fun _ => 0)), (q31, qc_f cI 10 (fun _ => 0)), (q39, qc_f cI 10 (fun _ => 0)), (q47, qc_f cI 60 (fun _ => 0)), (q59, qc_f cI 3 (fun _ => 0)), (q66, qc_f cI 3 (upd (upd (upd (fun _ => 0) 0 6) 1 6) 2 6)), (q101, qc_f cI 6 (upd (upd (upd (upd (upd (upd (fun _ => 0) 0 1) 1 1) 2 1) 3 1) 4 1) 5 1)), (q133, qc_f cI 16 (fun _ => 0))] := hD
  refine W.widen (k := 10) (n := 138) (by omega) (by omega) ?_
  refine va_putF (D := D) (ci := 5) (v := .ref q133) (ty := .array .int) (C := RX5) (T := TX5) (N := 23) hx hb hts inlX5 tyX5 tyX5_ok nmX5 hown hK hP hD hS 0 rfl rfl 16 (by decide) (hts (.fieldLink RX5 47 "QuestionLadderModel" "order" "[I") cm_76) (fun _ h9 => h9) rfl hin rfl (by decide +kernel) rfl rfl (Nat.le_of_ble_eq_true rfl) dX5_init_135 (fun H locs hP hD hS => ?_)
  have hP : va_P D vwCl [(h0, .inr (5, [.int 0, .ref q7, .ref q15, .ref q23, .ref q31, .ref q39, .ref q47, .int 4, .ref q59, .ref q66, .int 9, .int 10, .ref q101, .int 0, .int 0, .int 0, .ref q133, .null, .null, .null, .null, .long 0, .long 0])), (q7, qc_f cI 10 (fun _ => 0)), (q15, qc_f cI 10 (fun _ => 0)), (q23, qc_f cI 10 (fun _ => 0)), (q31, qc_f cI 10 (fun _ => 0)), (q39, qc_f cI 10 (fun _ => 0)), (q47, qc_f cI 60 (fun _ => 0)), (q59, qc_f cI 3 (fun _ => 0)), (q66, qc_f cI 3 (upd (upd (upd (fun _ => 0) 0 6) 1 6) 2 6)), (q101, qc_f cI 6 (upd (upd (upd (upd (upd (upd (fun _ => 0) 0 1) 1 1) 2 1) 3 1) 4 1) 5 1)), (q133, qc_f cI 16 (fun _ => 0))] H := hP
  have hD : va_D A [(h0, .inr (5, [.int 0, .ref q7, .ref q15, .ref q23, .ref q31, .ref q39, .ref q47, .int 4, .ref q59, .ref q66, .int 9, .int 10, .ref q101, .int 0, .int 0, .int 0, .ref q133, .null, .null, .null, .null, .long 0, .long 0])), (q7, qc_f cI 10 (fun _ => 0)), (q15, qc_f cI 10 (fun _ => 0)), (q23, qc_f cI 10 (fun _ => 0)), (q31, qc_f cI 10 (fun _ => 0)), (q39, qc_f cI 10 (fun _ => 0)), (q47, qc_f cI 60 (fun _ => 0)), (q59, qc_f cI 3 (fun _ => 0)), (q66, qc_f cI 3 (upd (upd (upd (fun _ => 0) 0 6) 1 6) 2 6)), (q101, qc_f cI 6 (upd (upd (upd (upd (upd (upd (fun _ => 0) 0 1) 1 1) 2 1) 3 1) 4 1) 5 1)), (q133, qc_f cI 16 (fun _ => 0))] := hD
  refine lv_aload_n hx hb dX5_init_138 rfl (lv_at hl 0 rfl) ?_
  refine lv_bipush (v := 16) hx hb dX5_init_139 (by decide) ?_
  refine qb_newa (atype := .boolean) (ty := .boolean) (N' := 16) (a0 := (16, .inl (fun _ => 0))) hx hb (hts (.arrayClass .boolean) cm_50) rfl hK hP hD hS hA 1 rfl (fun _ => rfl) (by decide) (by decide) (Nat.le_of_ble_eq_true rfl) (Nat.le_of_ble_eq_true rfl) (Nat.le_of_ble_eq_true rfl) dX5_init_141 (fun q141 H hP hD hS => ?_)
  have hP : va_P D vwCl [(h0, .inr (5, [.int 0, .ref q7, .ref q15, .ref q23, .ref q31, .ref q39, .ref q47, .int 4, .ref q59, .ref q66, .int 9, .int 10, .ref q101, .int 0, .int 0, .int 0, .ref q133, .null, .null, .null, .null, .long 0, .long 0])), (q7, qc_f cI 10 (fun _ => 0)), (q15, qc_f cI 10 (fun _ => 0)), (q23, qc_f cI 10 (fun _ => 0)), (q31, qc_f cI 10 (fun _ => 0)), (q39, qc_f cI 10 (fun _ => 0)), (q47, qc_f cI 60 (fun _ => 0)), (q59, qc_f cI 3 (fun _ => 0)), (q66, qc_f cI 3 (upd (upd (upd (fun _ => 0) 0 6) 1 6) 2 6)), (q101, qc_f cI 6 (upd (upd (upd (upd (upd (upd (fun _ => 0) 0 1) 1 1) 2 1) 3 1) 4 1) 5 1)), (q133, qc_f cI 16 (fun _ => 0)), (q141, qc_f cZ 16 (fun _ => 0))] H := hP
  have hD : va_D A [(h0, .inr (5, [.int 0, .ref q7, .ref q15, .ref q23, .ref q31, .ref q39, .ref q47, .int 4, .ref q59, .ref q66, .int 9, .int 10, .ref q101, .int 0, .int 0, .int 0, .ref q133, .null, .null, .null, .null, .long 0, .long 0])), (q7, qc_f cI 10 (fun _ => 0)), (q15, qc_f cI 10 (fun _ => 0)), (q23, qc_f cI 10 (fun _ => 0)), (q31, qc_f cI 10 (fun _ => 0)), (q39, qc_f cI 10 (fun _ => 0)), (q47, qc_f cI 60 (fun _ => 0)), (q59, qc_f cI 3 (fun _ => 0)), (q66, qc_f cI 3 (upd (upd (upd (fun _ => 0) 0 6) 1 6) 2 6)), (q101, qc_f cI 6 (upd (upd (upd (upd (upd (upd (fun _ => 0) 0 1) 1 1) 2 1) 3 1) 4 1) 5 1)), (q133, qc_f cI 16 (fun _ => 0)), (q141, qc_f cZ 16 (fun _ => 0))] := hD
  refine W.widen (k := 11) (n := 154) (by omega) (by omega) ?_
  refine va_putF (D := D) (ci := 5) (v := .ref q141) (ty := .array .boolean) (C := RX5) (T := TX5) (N := 23) hx hb hts inlX5 tyX5 tyX5_ok nmX5 hown hK hP hD hS 0 rfl rfl 17 (by decide) (hts (.fieldLink RX5 50 "QuestionLadderModel" "wasRight" "[Z") cm_77) (fun _ h9 => h9) rfl hin rfl (by decide +kernel) rfl rfl (Nat.le_of_ble_eq_true rfl) dX5_init_143 (fun H locs hP hD hS => ?_)
  have hP : va_P D vwCl [(h0, .inr (5, [.int 0, .ref q7, .ref q15, .ref q23, .ref q31, .ref q39, .ref q47, .int 4, .ref q59, .ref q66, .int 9, .int 10, .ref q101, .int 0, .int 0, .int 0, .ref q133, .ref q141, .null, .null, .null, .long 0, .long 0])), (q7, qc_f cI 10 (fun _ => 0)), (q15, qc_f cI 10 (fun _ => 0)), (q23, qc_f cI 10 (fun _ => 0)), (q31, qc_f cI 10 (fun _ => 0)), (q39, qc_f cI 10 (fun _ => 0)), (q47, qc_f cI 60 (fun _ => 0)), (q59, qc_f cI 3 (fun _ => 0)), (q66, qc_f cI 3 (upd (upd (upd (fun _ => 0) 0 6) 1 6) 2 6)), (q101, qc_f cI 6 (upd (upd (upd (upd (upd (upd (fun _ => 0) 0 1) 1 1) 2 1) 3 1) 4 1) 5 1)), (q133, qc_f cI 16 (fun _ => 0)), (q141, qc_f cZ 16 (fun _ => 0))] H := hP
  have hD : va_D A [(h0, .inr (5, [.int 0, .ref q7, .ref q15, .ref q23, .ref q31, .ref q39, .ref q47, .int 4, .ref q59, .ref q66, .int 9, .int 10, .ref q101, .int 0, .int 0, .int 0, .ref q133, .ref q141, .null, .null, .null, .long 0, .long 0])), (q7, qc_f cI 10 (fun _ => 0)), (q15, qc_f cI 10 (fun _ => 0)), (q23, qc_f cI 10 (fun _ => 0)), (q31, qc_f cI 10 (fun _ => 0)), (q39, qc_f cI 10 (fun _ => 0)), (q47, qc_f cI 60 (fun _ => 0)), (q59, qc_f cI 3 (fun _ => 0)), (q66, qc_f cI 3 (upd (upd (upd (fun _ => 0) 0 6) 1 6) 2 6)), (q101, qc_f cI 6 (upd (upd (upd (upd (upd (upd (fun _ => 0) 0 1) 1 1) 2 1) 3 1) 4 1) 5 1)), (q133, qc_f cI 16 (fun _ => 0)), (q141, qc_f cZ 16 (fun _ => 0))] := hD
  refine lv_aload_n hx hb dX5_init_146 rfl (lv_at hl 0 rfl) ?_
  refine lv_bipush (v := 72) hx hb dX5_init_147 (by decide) ?_
  refine qb_newa (atype := .int) (ty := .int) (N' := 72) (a0 := (72, .inl (fun _ => 0))) hx hb (hts (.arrayClass .int) cm_32) rfl hK hP hD hS hA 0 rfl (fun _ => rfl) (by decide) (by decide) (Nat.le_of_ble_eq_true rfl) (Nat.le_of_ble_eq_true rfl) (Nat.le_of_ble_eq_true rfl) dX5_init_149 (fun q149 H hP hD hS => ?_)
  have hP : va_P D vwCl [(h0, .inr (5, [.int 0, .ref q7, .ref q15, .ref q23, .ref q31, .ref q39, .ref q47, .int 4, .ref q59, .ref q66, .int 9, .int 10, .ref q101, .int 0, .int 0, .int 0, .ref q133, .ref q141, .null, .null, .null, .long 0, .long 0])), (q7, qc_f cI 10 (fun _ => 0)), (q15, qc_f cI 10 (fun _ => 0)), (q23, qc_f cI 10 (fun _ => 0)), (q31, qc_f cI 10 (fun _ => 0)), (q39, qc_f cI 10 (fun _ => 0)), (q47, qc_f cI 60 (fun _ => 0)), (q59, qc_f cI 3 (fun _ => 0)), (q66, qc_f cI 3 (upd (upd (upd (fun _ => 0) 0 6) 1 6) 2 6)), (q101, qc_f cI 6 (upd (upd (upd (upd (upd (upd (fun _ => 0) 0 1) 1 1) 2 1) 3 1) 4 1) 5 1)), (q133, qc_f cI 16 (fun _ => 0)), (q141, qc_f cZ 16 (fun _ => 0)), (q149, qc_f cI 72 (fun _ => 0))] H := hP
  have hD : va_D A [(h0, .inr (5, [.int 0, .ref q7, .ref q15, .ref q23, .ref q31, .ref q39, .ref q47, .int 4, .ref q59, .ref q66, .int 9, .int 10, .ref q101, .int 0, .int 0, .int 0, .ref q133, .ref q141, .null, .null, .null, .long 0, .long 0])), (q7, qc_f cI 10 (fun _ => 0)), (q15, qc_f cI 10 (fun _ => 0)), (q23, qc_f cI 10 (fun _ => 0)), (q31, qc_f cI 10 (fun _ => 0)), (q39, qc_f cI 10 (fun _ => 0)), (q47, qc_f cI 60 (fun _ => 0)), (q59, qc_f cI 3 (fun _ => 0)), (q66, qc_f cI 3 (upd (upd (upd (fun _ => 0) 0 6) 1 6) 2 6)), (q101, qc_f cI 6 (upd (upd (upd (upd (upd (upd (fun _ => 0) 0 1) 1 1) 2 1) 3 1) 4 1) 5 1)), (q133, qc_f cI 16 (fun _ => 0)), (q141, qc_f cZ 16 (fun _ => 0)), (q149, qc_f cI 72 (fun _ => 0))] := hD
  refine W.widen (k := 12) (n := 226) (by omega) (by omega) ?_
  refine va_putF (D := D) (ci := 5) (v := .ref q149) (ty := .array .int) (C := RX5) (T := TX5) (N := 23) hx hb hts inlX5 tyX5 tyX5_ok nmX5 hown hK hP hD hS 0 rfl rfl 18 (by decide) (hts (.fieldLink RX5 54 "QuestionLadderModel" "weights" "[I") cm_78) (fun _ h9 => h9) rfl hin rfl (by decide +kernel) rfl rfl (Nat.le_of_ble_eq_true rfl) dX5_init_151 (fun H locs hP hD hS => ?_)
  have hP : va_P D vwCl [(h0, .inr (5, [.int 0, .ref q7, .ref q15, .ref q23, .ref q31, .ref q39, .ref q47, .int 4, .ref q59, .ref q66, .int 9, .int 10, .ref q101, .int 0, .int 0, .int 0, .ref q133, .ref q141, .ref q149, .null, .null, .long 0, .long 0])), (q7, qc_f cI 10 (fun _ => 0)), (q15, qc_f cI 10 (fun _ => 0)), (q23, qc_f cI 10 (fun _ => 0)), (q31, qc_f cI 10 (fun _ => 0)), (q39, qc_f cI 10 (fun _ => 0)), (q47, qc_f cI 60 (fun _ => 0)), (q59, qc_f cI 3 (fun _ => 0)), (q66, qc_f cI 3 (upd (upd (upd (fun _ => 0) 0 6) 1 6) 2 6)), (q101, qc_f cI 6 (upd (upd (upd (upd (upd (upd (fun _ => 0) 0 1) 1 1) 2 1) 3 1) 4 1) 5 1)), (q133, qc_f cI 16 (fun _ => 0)), (q141, qc_f cZ 16 (fun _ => 0)), (q149, qc_f cI 72 (fun _ => 0))] H := hP
  have hD : va_D A [(h0, .inr (5, [.int 0, .ref q7, .ref q15, .ref q23, .ref q31, .ref q39, .ref q47, .int 4, .ref q59, .ref q66, .int 9, .int 10, .ref q101, .int 0, .int 0, .int 0, .ref q133, .ref q141, .ref q149, .null, .null, .long 0, .long 0])), (q7, qc_f cI 10 (fun _ => 0)), (q15, qc_f cI 10 (fun _ => 0)), (q23, qc_f cI 10 (fun _ => 0)), (q31, qc_f cI 10 (fun _ => 0)), (q39, qc_f cI 10 (fun _ => 0)), (q47, qc_f cI 60 (fun _ => 0)), (q59, qc_f cI 3 (fun _ => 0)), (q66, qc_f cI 3 (upd (upd (upd (fun _ => 0) 0 6) 1 6) 2 6)), (q101, qc_f cI 6 (upd (upd (upd (upd (upd (upd (fun _ => 0) 0 1) 1 1) 2 1) 3 1) 4 1) 5 1)), (q133, qc_f cI 16 (fun _ => 0)), (q141, qc_f cZ 16 (fun _ => 0)), (q149, qc_f cI 72 (fun _ => 0))] := hD
  refine lv_aload_n hx hb dX5_init_154 rfl (lv_at hl 0 rfl) ?_
  refine lv_sipush (v := 1024) hx hb dX5_init_155 (by decide) ?_
  refine qb_newa (atype := .boolean) (ty := .boolean) (N' := 1024) (a0 := (1024, .inl (fun _ => 0))) hx hb (hts (.arrayClass .boolean) cm_50) rfl hK hP hD hS hA 1 rfl (fun _ => rfl) (by decide) (by decide) (Nat.le_of_ble_eq_true rfl) (Nat.le_of_ble_eq_true rfl) (Nat.le_of_ble_eq_true rfl) dX5_init_158 (fun q158 H hP hD hS => ?_)
  have hP : va_P D vwCl [(h0, .inr (5, [.int 0, .ref q7, .ref q15, .ref q23, .ref q31, .ref q39, .ref q47, .int 4, .ref q59, .ref q66, .int 9, .int 10, .ref q101, .int 0, .int 0, .int 0, .ref q133, .ref q141, .ref q149, .null, .null, .long 0, .long 0])), (q7, qc_f cI 10 (fun _ => 0)), (q15, qc_f cI 10 (fun _ => 0)), (q23, qc_f cI 10 (fun _ => 0)), (q31, qc_f cI 10 (fun _ => 0)), (q39, qc_f cI 10 (fun _ => 0)), (q47, qc_f cI 60 (fun _ => 0)), (q59, qc_f cI 3 (fun _ => 0)), (q66, qc_f cI 3 (upd (upd (upd (fun _ => 0) 0 6) 1 6) 2 6)), (q101, qc_f cI 6 (upd (upd (upd (upd (upd (upd (fun _ => 0) 0 1) 1 1) 2 1) 3 1) 4 1) 5 1)), (q133, qc_f cI 16 (fun _ => 0)), (q141, qc_f cZ 16 (fun _ => 0)), (q149, qc_f cI 72 (fun _ => 0)), (q158, qc_f cZ 1024 (fun _ => 0))] H := hP
  have hD : va_D A [(h0, .inr (5, [.int 0, .ref q7, .ref q15, .ref q23, .ref q31, .ref q39, .ref q47, .int 4, .ref q59, .ref q66, .int 9, .int 10, .ref q101, .int 0, .int 0, .int 0, .ref q133, .ref q141, .ref q149, .null, .null, .long 0, .long 0])), (q7, qc_f cI 10 (fun _ => 0)), (q15, qc_f cI 10 (fun _ => 0)), (q23, qc_f cI 10 (fun _ => 0)), (q31, qc_f cI 10 (fun _ => 0)), (q39, qc_f cI 10 (fun _ => 0)), (q47, qc_f cI 60 (fun _ => 0)), (q59, qc_f cI 3 (fun _ => 0)), (q66, qc_f cI 3 (upd (upd (upd (fun _ => 0) 0 6) 1 6) 2 6)), (q101, qc_f cI 6 (upd (upd (upd (upd (upd (upd (fun _ => 0) 0 1) 1 1) 2 1) 3 1) 4 1) 5 1)), (q133, qc_f cI 16 (fun _ => 0)), (q141, qc_f cZ 16 (fun _ => 0)), (q149, qc_f cI 72 (fun _ => 0)), (q158, qc_f cZ 1024 (fun _ => 0))] := hD
  refine W.widen (k := 13) (n := 1250) (by omega) (by omega) ?_
  refine va_putF (D := D) (ci := 5) (v := .ref q158) (ty := .array .boolean) (C := RX5) (T := TX5) (N := 23) hx hb hts inlX5 tyX5 tyX5_ok nmX5 hown hK hP hD hS 0 rfl rfl 19 (by decide) (hts (.fieldLink RX5 57 "QuestionLadderModel" "fits" "[Z") cm_79) (fun _ h9 => h9) rfl hin rfl (by decide +kernel) rfl rfl (Nat.le_of_ble_eq_true rfl) dX5_init_160 (fun H locs hP hD hS => ?_)
  have hP : va_P D vwCl [(h0, .inr (5, [.int 0, .ref q7, .ref q15, .ref q23, .ref q31, .ref q39, .ref q47, .int 4, .ref q59, .ref q66, .int 9, .int 10, .ref q101, .int 0, .int 0, .int 0, .ref q133, .ref q141, .ref q149, .ref q158, .null, .long 0, .long 0])), (q7, qc_f cI 10 (fun _ => 0)), (q15, qc_f cI 10 (fun _ => 0)), (q23, qc_f cI 10 (fun _ => 0)), (q31, qc_f cI 10 (fun _ => 0)), (q39, qc_f cI 10 (fun _ => 0)), (q47, qc_f cI 60 (fun _ => 0)), (q59, qc_f cI 3 (fun _ => 0)), (q66, qc_f cI 3 (upd (upd (upd (fun _ => 0) 0 6) 1 6) 2 6)), (q101, qc_f cI 6 (upd (upd (upd (upd (upd (upd (fun _ => 0) 0 1) 1 1) 2 1) 3 1) 4 1) 5 1)), (q133, qc_f cI 16 (fun _ => 0)), (q141, qc_f cZ 16 (fun _ => 0)), (q149, qc_f cI 72 (fun _ => 0)), (q158, qc_f cZ 1024 (fun _ => 0))] H := hP
  have hD : va_D A [(h0, .inr (5, [.int 0, .ref q7, .ref q15, .ref q23, .ref q31, .ref q39, .ref q47, .int 4, .ref q59, .ref q66, .int 9, .int 10, .ref q101, .int 0, .int 0, .int 0, .ref q133, .ref q141, .ref q149, .ref q158, .null, .long 0, .long 0])), (q7, qc_f cI 10 (fun _ => 0)), (q15, qc_f cI 10 (fun _ => 0)), (q23, qc_f cI 10 (fun _ => 0)), (q31, qc_f cI 10 (fun _ => 0)), (q39, qc_f cI 10 (fun _ => 0)), (q47, qc_f cI 60 (fun _ => 0)), (q59, qc_f cI 3 (fun _ => 0)), (q66, qc_f cI 3 (upd (upd (upd (fun _ => 0) 0 6) 1 6) 2 6)), (q101, qc_f cI 6 (upd (upd (upd (upd (upd (upd (fun _ => 0) 0 1) 1 1) 2 1) 3 1) 4 1) 5 1)), (q133, qc_f cI 16 (fun _ => 0)), (q141, qc_f cZ 16 (fun _ => 0)), (q149, qc_f cI 72 (fun _ => 0)), (q158, qc_f cZ 1024 (fun _ => 0))] := hD
  refine lv_aload_n hx hb dX5_init_163 rfl (lv_at hl 0 rfl) ?_
  refine lv_sipush (v := 1024) hx hb dX5_init_164 (by decide) ?_
  refine qb_newa (atype := .boolean) (ty := .boolean) (N' := 1024) (a0 := (1024, .inl (fun _ => 0))) hx hb (hts (.arrayClass .boolean) cm_50) rfl hK hP hD hS hA 1 rfl (fun _ => rfl) (by decide) (by decide) (Nat.le_of_ble_eq_true rfl) (Nat.le_of_ble_eq_true rfl) (Nat.le_of_ble_eq_true rfl) dX5_init_167 (fun q167 H hP hD hS => ?_)
  have hP : va_P D vwCl [(h0, .inr (5, [.int 0, .ref q7, .ref q15, .ref q23, .ref q31, .ref q39, .ref q47, .int 4, .ref q59, .ref q66, .int 9, .int 10, .ref q101, .int 0, .int 0, .int 0, .ref q133, .ref q141, .ref q149, .ref q158, .null, .long 0, .long 0])), (q7, qc_f cI 10 (fun _ => 0)), (q15, qc_f cI 10 (fun _ => 0)), (q23, qc_f cI 10 (fun _ => 0)), (q31, qc_f cI 10 (fun _ => 0)), (q39, qc_f cI 10 (fun _ => 0)), (q47, qc_f cI 60 (fun _ => 0)), (q59, qc_f cI 3 (fun _ => 0)), (q66, qc_f cI 3 (upd (upd (upd (fun _ => 0) 0 6) 1 6) 2 6)), (q101, qc_f cI 6 (upd (upd (upd (upd (upd (upd (fun _ => 0) 0 1) 1 1) 2 1) 3 1) 4 1) 5 1)), (q133, qc_f cI 16 (fun _ => 0)), (q141, qc_f cZ 16 (fun _ => 0)), (q149, qc_f cI 72 (fun _ => 0)), (q158, qc_f cZ 1024 (fun _ => 0)), (q167, qc_f cZ 1024 (fun _ => 0))] H := hP
  have hD : va_D A [(h0, .inr (5, [.int 0, .ref q7, .ref q15, .ref q23, .ref q31, .ref q39, .ref q47, .int 4, .ref q59, .ref q66, .int 9, .int 10, .ref q101, .int 0, .int 0, .int 0, .ref q133, .ref q141, .ref q149, .ref q158, .null, .long 0, .long 0])), (q7, qc_f cI 10 (fun _ => 0)), (q15, qc_f cI 10 (fun _ => 0)), (q23, qc_f cI 10 (fun _ => 0)), (q31, qc_f cI 10 (fun _ => 0)), (q39, qc_f cI 10 (fun _ => 0)), (q47, qc_f cI 60 (fun _ => 0)), (q59, qc_f cI 3 (fun _ => 0)), (q66, qc_f cI 3 (upd (upd (upd (fun _ => 0) 0 6) 1 6) 2 6)), (q101, qc_f cI 6 (upd (upd (upd (upd (upd (upd (fun _ => 0) 0 1) 1 1) 2 1) 3 1) 4 1) 5 1)), (q133, qc_f cI 16 (fun _ => 0)), (q141, qc_f cZ 16 (fun _ => 0)), (q149, qc_f cI 72 (fun _ => 0)), (q158, qc_f cZ 1024 (fun _ => 0)), (q167, qc_f cZ 1024 (fun _ => 0))] := hD
  refine W.widen (k := 14) (n := 2274) (by omega) (by omega) ?_
  refine va_putF (D := D) (ci := 5) (v := .ref q167) (ty := .array .boolean) (C := RX5) (T := TX5) (N := 23) hx hb hts inlX5 tyX5 tyX5_ok nmX5 hown hK hP hD hS 0 rfl rfl 20 (by decide) (hts (.fieldLink RX5 60 "QuestionLadderModel" "canFit" "[Z") cm_80) (fun _ h9 => h9) rfl hin rfl (by decide +kernel) rfl rfl (Nat.le_of_ble_eq_true rfl) dX5_init_169 (fun H locs hP hD hS => ?_)
  have hP : va_P D vwCl [(h0, .inr (5, [.int 0, .ref q7, .ref q15, .ref q23, .ref q31, .ref q39, .ref q47, .int 4, .ref q59, .ref q66, .int 9, .int 10, .ref q101, .int 0, .int 0, .int 0, .ref q133, .ref q141, .ref q149, .ref q158, .ref q167, .long 0, .long 0])), (q7, qc_f cI 10 (fun _ => 0)), (q15, qc_f cI 10 (fun _ => 0)), (q23, qc_f cI 10 (fun _ => 0)), (q31, qc_f cI 10 (fun _ => 0)), (q39, qc_f cI 10 (fun _ => 0)), (q47, qc_f cI 60 (fun _ => 0)), (q59, qc_f cI 3 (fun _ => 0)), (q66, qc_f cI 3 (upd (upd (upd (fun _ => 0) 0 6) 1 6) 2 6)), (q101, qc_f cI 6 (upd (upd (upd (upd (upd (upd (fun _ => 0) 0 1) 1 1) 2 1) 3 1) 4 1) 5 1)), (q133, qc_f cI 16 (fun _ => 0)), (q141, qc_f cZ 16 (fun _ => 0)), (q149, qc_f cI 72 (fun _ => 0)), (q158, qc_f cZ 1024 (fun _ => 0)), (q167, qc_f cZ 1024 (fun _ => 0))] H := hP
  have hD : va_D A [(h0, .inr (5, [.int 0, .ref q7, .ref q15, .ref q23, .ref q31, .ref q39, .ref q47, .int 4, .ref q59, .ref q66, .int 9, .int 10, .ref q101, .int 0, .int 0, .int 0, .ref q133, .ref q141, .ref q149, .ref q158, .ref q167, .long 0, .long 0])), (q7, qc_f cI 10 (fun _ => 0)), (q15, qc_f cI 10 (fun _ => 0)), (q23, qc_f cI 10 (fun _ => 0)), (q31, qc_f cI 10 (fun _ => 0)), (q39, qc_f cI 10 (fun _ => 0)), (q47, qc_f cI 60 (fun _ => 0)), (q59, qc_f cI 3 (fun _ => 0)), (q66, qc_f cI 3 (upd (upd (upd (fun _ => 0) 0 6) 1 6) 2 6)), (q101, qc_f cI 6 (upd (upd (upd (upd (upd (upd (fun _ => 0) 0 1) 1 1) 2 1) 3 1) 4 1) 5 1)), (q133, qc_f cI 16 (fun _ => 0)), (q141, qc_f cZ 16 (fun _ => 0)), (q149, qc_f cI 72 (fun _ => 0)), (q158, qc_f cZ 1024 (fun _ => 0)), (q167, qc_f cZ 1024 (fun _ => 0))] := hD
  refine lv_aload_n hx hb dX5_init_172 rfl (lv_at hl 0 rfl) ?_
  refine lv_iconst (v := 0) hx hb dX5_init_173 (by decide) ?_
  refine va_put (D := D) (ci := 5) (v := .int 0) (ty := .int) (C := RX5) (T := TX5) (N := 23) hx hb hts inlX5 tyX5 tyX5_ok nmX5 hown hK hP hD hS 0 rfl rfl 0 (by decide) (hts (.fieldLink RX5 63 "QuestionLadderModel" "questions" "I") cm_81) (fun _ h9 => h9) rfl (by decide +kernel) rfl rfl (Nat.le_of_ble_eq_true rfl) dX5_init_174 (fun H locs hP hD hS => ?_)
  have hP : va_P D vwCl [(h0, .inr (5, [.int 0, .ref q7, .ref q15, .ref q23, .ref q31, .ref q39, .ref q47, .int 4, .ref q59, .ref q66, .int 9, .int 10, .ref q101, .int 0, .int 0, .int 0, .ref q133, .ref q141, .ref q149, .ref q158, .ref q167, .long 0, .long 0])), (q7, qc_f cI 10 (fun _ => 0)), (q15, qc_f cI 10 (fun _ => 0)), (q23, qc_f cI 10 (fun _ => 0)), (q31, qc_f cI 10 (fun _ => 0)), (q39, qc_f cI 10 (fun _ => 0)), (q47, qc_f cI 60 (fun _ => 0)), (q59, qc_f cI 3 (fun _ => 0)), (q66, qc_f cI 3 (upd (upd (upd (fun _ => 0) 0 6) 1 6) 2 6)), (q101, qc_f cI 6 (upd (upd (upd (upd (upd (upd (fun _ => 0) 0 1) 1 1) 2 1) 3 1) 4 1) 5 1)), (q133, qc_f cI 16 (fun _ => 0)), (q141, qc_f cZ 16 (fun _ => 0)), (q149, qc_f cI 72 (fun _ => 0)), (q158, qc_f cZ 1024 (fun _ => 0)), (q167, qc_f cZ 1024 (fun _ => 0))] H := hP
  have hD : va_D A [(h0, .inr (5, [.int 0, .ref q7, .ref q15, .ref q23, .ref q31, .ref q39, .ref q47, .int 4, .ref q59, .ref q66, .int 9, .int 10, .ref q101, .int 0, .int 0, .int 0, .ref q133, .ref q141, .ref q149, .ref q158, .ref q167, .long 0, .long 0])), (q7, qc_f cI 10 (fun _ => 0)), (q15, qc_f cI 10 (fun _ => 0)), (q23, qc_f cI 10 (fun _ => 0)), (q31, qc_f cI 10 (fun _ => 0)), (q39, qc_f cI 10 (fun _ => 0)), (q47, qc_f cI 60 (fun _ => 0)), (q59, qc_f cI 3 (fun _ => 0)), (q66, qc_f cI 3 (upd (upd (upd (fun _ => 0) 0 6) 1 6) 2 6)), (q101, qc_f cI 6 (upd (upd (upd (upd (upd (upd (fun _ => 0) 0 1) 1 1) 2 1) 3 1) 4 1) 5 1)), (q133, qc_f cI 16 (fun _ => 0)), (q141, qc_f cZ 16 (fun _ => 0)), (q149, qc_f cI 72 (fun _ => 0)), (q158, qc_f cZ 1024 (fun _ => 0)), (q167, qc_f cZ 1024 (fun _ => 0))] := hD
  exact W.vret hx hb hr (fun t ht hW => ⟨⟨fun i => ([q7, q15, q23, q31, q39, q47, q59, q66, q101, q133, q141, q149, q158, q167] : List Nat).getD i 0, rfl, trivial, by rw [ht]; exact hP, hD⟩, hS.F ht⟩) hS.2.2 dX5_init_177
theorem dX4_init_0 : decode cX4_init 0 = .ok (.aload_n 0, 1) := by decide +kernel
theorem dX4_init_1 : decode cX4_init 1 = .ok (.invokespecial 3, 3) := by decide +kernel
theorem dX4_init_4 : decode cX4_init 4 = .ok (.aload_n 0, 1) := by decide +kernel
theorem dX4_init_5 : decode cX4_init 5 = .ok (.new 9, 3) := by decide +kernel
theorem dX4_init_8 : decode cX4_init 8 = .ok (.dup, 1) := by decide +kernel
theorem dX4_init_9 : decode cX4_init 9 = .ok (.invokespecial 11, 3) := by decide +kernel
theorem dX4_init_12 : decode cX4_init 12 = .ok (.putfield 12, 3) := by decide +kernel
theorem dX4_init_15 : decode cX4_init 15 = .ok (.aload_n 0, 1) := by decide +kernel
theorem dX4_init_16 : decode cX4_init 16 = .ok (.new 16, 3) := by decide +kernel
theorem dX4_init_19 : decode cX4_init 19 = .ok (.dup, 1) := by decide +kernel
theorem dX4_init_20 : decode cX4_init 20 = .ok (.invokespecial 18, 3) := by decide +kernel
theorem dX4_init_23 : decode cX4_init 23 = .ok (.putfield 19, 3) := by decide +kernel
theorem dX4_init_26 : decode cX4_init 26 = .ok (.aload_n 0, 1) := by decide +kernel
theorem dX4_init_27 : decode cX4_init 27 = .ok (.new 23, 3) := by decide +kernel
theorem dX4_init_30 : decode cX4_init 30 = .ok (.dup, 1) := by decide +kernel
theorem dX4_init_31 : decode cX4_init 31 = .ok (.invokespecial 25, 3) := by decide +kernel
theorem dX4_init_34 : decode cX4_init 34 = .ok (.putfield 26, 3) := by decide +kernel
theorem dX4_init_37 : decode cX4_init 37 = .ok (.aload_n 0, 1) := by decide +kernel
theorem dX4_init_38 : decode cX4_init 38 = .ok (.new 30, 3) := by decide +kernel
theorem dX4_init_41 : decode cX4_init 41 = .ok (.dup, 1) := by decide +kernel
theorem dX4_init_42 : decode cX4_init 42 = .ok (.invokespecial 32, 3) := by decide +kernel
theorem dX4_init_45 : decode cX4_init 45 = .ok (.putfield 33, 3) := by decide +kernel
theorem dX4_init_48 : decode cX4_init 48 = .ok (.return_, 1) := by decide +kernel
def qw_X4 (cI cZ cA : ClassId) (h : Nat) (a : Nat → Nat) : va_W := [(h, .inr (4, [.ref (a 0), .ref (a 2), .ref (a 6), .ref (a 12)])), (a 0, .inr (0, [.int 0, .ref ((a 1))])), (a 1, qc_r cA 10 (a 1)), (((a 1)) + 1 + 0, qc_f cI 11 (fun _ => 0)), (((a 1)) + 1 + 1, qc_f cI 11 (fun _ => 0)), (((a 1)) + 1 + 2, qc_f cI 11 (fun _ => 0)), (((a 1)) + 1 + 3, qc_f cI 11 (fun _ => 0)), (((a 1)) + 1 + 4, qc_f cI 11 (fun _ => 0)), (((a 1)) + 1 + 5, qc_f cI 11 (fun _ => 0)), (((a 1)) + 1 + 6, qc_f cI 11 (fun _ => 0)), (((a 1)) + 1 + 7, qc_f cI 11 (fun _ => 0)), (((a 1)) + 1 + 8, qc_f cI 11 (fun _ => 0)), (((a 1)) + 1 + 9, qc_f cI 11 (fun _ => 0)), (a 2, .inr (2, [.int 4, .int 9, .int 10, .ref ((a 3)), .ref ((a 4)), .ref ((a 5))])), (a 3, qc_f cI 3 (fun _ => 0)), (a 4, qc_f cI 3 (upd (upd (upd (fun _ => 0) 0 6) 1 6) 2 6)), (a 5, qc_f cI 6 (upd (upd (upd (upd (upd (upd (fun _ => 0) 0 1) 1 1) 2 1) 3 1) 4 1) 5 1)), (a 6, .inr (1, [.int 0, .int 0, .int 0, .ref ((a 7)), .ref ((a 8)), .ref ((a 9)), .ref ((a 10)), .ref ((a 11))])), (a 7, qc_f cI 3 (fun _ => 0)), (a 8, qc_f cI 3 (fun _ => 0)), (a 9, qc_f cI 3 (fun _ => 0)), (a 10, qc_f cZ 1024 (fun _ => 0)), (a 11, qc_f cZ 1024 (fun _ => 0)), (a 12, .inr (3, [.int 0, .int 0, .int 0, .int 0, .ref ((a 13)), .ref ((a 14)), .ref ((a 15))])), (a 13, qc_f cI 6 (fun _ => 0)), (a 14, qc_f cZ 6 (fun _ => 0)), (a 15, qc_r cA 7 (a 15)), (((a 15)) + 1 + 0, qc_f cI 6 (fun _ => 0)), (((a 15)) + 1 + 1, qc_f cI 6 (fun _ => 0)), (((a 15)) + 1 + 2, qc_f cI 6 (fun _ => 0)), (((a 15)) + 1 + 3, qc_f cI 6 (fun _ => 0)), (((a 15)) + 1 + 4, qc_f cI 6 (fun _ => 0)), (((a 15)) + 1 + 5, qc_f cI 6 (fun _ => 0)), (((a 15)) + 1 + 6, qc_f cI 6 (fun _ => 0))]
set_option maxHeartbeats 4000000 in
set_option maxRecDepth 100000 in
theorem cb_X4 (l : Launch) (D : va_G) (cI cZ cA : ClassId) (h0 sz : Nat) : Met l yX4_init (.code yX4_init cX4_init 1 none :: wsL_law) ({ frames := 2, cells := 33, slots := 2273, locals := 120 }) (va_Pc [.ref h0] (qb_Pc D cI cZ cA [(h0, .inr (4, [.null, .null, .null, .null]))] sz)) (va_Qv (fun _ : Nat → Nat => True) (fun a t => va_P D vwCl (qw_X4 cI cZ cA h0 a) t.heap ∧ va_D (va_A [(h0, .inr (4, [.null, .null, .null, .null]))] sz) (qw_X4 cI cZ cA h0 a)) (va_A [(h0, .inr (4, [.null, .null, .null, .null]))] sz)) 33 2273 (va_A [(h0, .inr (4, [.null, .null, .null, .null]))] sz) := by
  refine Met.ofW (cc := cX4_init) (maxL := 1) (ret := none) (by decide) rfl ?_
  intro p e s m args below meth c s₁ B hml hv
  obtain ⟨rfl, hsz, hP, hK, hD0, hAA, hBW⟩ := hv
  have hx := B.exec
  have hb := B.bytes
  have hr := B.returns
  have hts0 := atoms_spec (ws := .code yX4_init cX4_init 1 none :: wsL_law) B.pre
  have hts : ∀ w ∈ wsL_law, w.before ([Value.ref h0] : List Value).toArray s = true := fun w hw => hts0 w (List.mem_cons_of_mem _ hw)
  have hown : s.vm.findClass RX4 = some m.cls := findClass_of_methodNamed B.named
  have hlocks := B.notSynchronized
  have hin : meth.name = "<init>" := (name_of_methodNamed B.named B.method).1
  subst hsz
  have hD := hD0.self (sz := s.heap.size)
  generalize hAe : va_A [(h0, .inr (4, [.null, .null, .null, .null]))] s.heap.size = A at hD ⊢
  have hA : ∀ q : Nat, s.heap.size ≤ q → A q := fun q h => by rw [← hAe]; exact Or.inr h
  have hS : va_S A s.heap s.heap [] := va_S.rf
  have hP : va_P D vwCl [(h0, .inr (4, [.null, .null, .null, .null]))] s.heap := hP
  have hl := lv_entry ([.ref h0]) (n := 1) (Nat.le_of_ble_eq_true rfl)
  rw [lg_entry_eq]
  generalize (lg_sl ([.ref h0]) ++ List.replicate (1 - (lg_sl ([.ref h0])).length) Slot.unset).toArray = ls at hl ⊢
  have hl : lv_has ls 1 [(0, .ref h0)] := hl
  refine lv_aload_n hx hb dX4_init_0 rfl (lv_at hl 0 rfl) ?_
  refine W.objInit hx hb hown (hts (.methodLink RX4 3 objectInit) cm_9) (hts (.instanceMethod objectInit) cm_10) (hts (.code objectInit ⟨#[0xb1]⟩ 1 none) cm_11) rfl (by rw [hml]; exact hl.1) rfl dX4_init_1 (Nat.le_of_ble_eq_true rfl) (Nat.le_of_ble_eq_true rfl) ?_
  refine W.eq (g2 := F0 m 4 ls []) rfl ?_
  refine lv_aload_n hx hb dX4_init_4 rfl (lv_at hl 0 rfl) ?_
  refine va_new (ci := 0) (fs := [.int 0, .null]) (C := RX0) (T := TX0) (N := 2) hx hb hts inlX0 tyX0 tyX0_ok hown (hts (.classLink RX4 9 RX0) cm_12) (hts (.instantiable RX0 2) cm_13) (hts (.initialized RX0) cm_14) hK hP hD hS hA rfl (fun j hj => by rcases (show j = 0 ∨ j = 1 by omega) with rfl | rfl <;> rfl) (Nat.le_of_ble_eq_true rfl) (Nat.le_of_ble_eq_true rfl) dX4_init_5 (fun q5 H hP hD hS => ?_)
  have hP : va_P D vwCl [(h0, .inr (4, [.null, .null, .null, .null])), (q5, .inr (0, [.int 0, .null]))] H := hP
  have hD : va_D A [(h0, .inr (4, [.null, .null, .null, .null])), (q5, .inr (0, [.int 0, .null]))] := hD
  refine W.widen (k := 1) (n := 2) (by omega) (by omega) ?_
  refine lv_dup hx hb dX4_init_8 rfl ?_
  have hPc := hP.sub (ws' := [(q5, .inr (0, [.int 0, .null]))]) [1] rfl
  have hDc := hD.sub (ws' := [(q5, .inr (0, [.int 0, .null]))]) [1] (by decide) rfl
  have hFc := va_free (wc := [(q5, .inr (0, [.int 0, .null]))]) hD hS hA [1] rfl
  refine va_callv (va_runIN (As := []) (rest := [.ref q5, .ref h0]) ⟨hx, hb, hml, hown, hts⟩ (cb_X0 l D cI cZ cA q5 H.size) ⟨va_cnB (bytes := cX0_init) (maxL := 1) (ret := none) 0 hts (q_goodC cm_29 rfl q_goodB) rfl rfl rfl (hBW (RX4, 11, yX0_init, "QuestionLadder") (by simp [qb_nw])) (hts (.initialized RX0) cm_14) (by decide +kernel) ⟨(Nat.le_of_ble_eq_true rfl), (Nat.le_of_ble_eq_true rfl)⟩, rfl, (hts (.instanceMethod yX0_init) cm_28)⟩ ⟨qb_blind, fun U hU hW => ⟨rfl, by rw [hU], by rw [hU]; exact hPc, va_K.moved hW.alike hK, hDc.weaken (fun _ _ _ _ => trivial), hAA.moved hW.alike, qb_NW.warm hW hBW⟩⟩ rfl rfl hl.1 rfl (lv_room (Nat.le_of_ble_eq_true rfl)) dX4_init_9 ⟨(Nat.le_of_ble_eq_true rfl), (Nat.le_of_ble_eq_true rfl)⟩) hS (fun q _ h => hFc q h) hFc (fun u9 t H1 locs ht hvm hw hB hz1 hk1 hS => ?_)
  obtain ⟨hP1, hD1⟩ := hB
  rw [ht] at hP1
  obtain ⟨hP, hD⟩ := va_join (wr := [(h0, .inr (4, [.null, .null, .null, .null]))]) (w1 := qw_X0 cI cZ cA q5 u9) hP hD [1] [0] rfl rfl (by decide) (by decide) hk1 hFc hP1 hD1
  generalize H1 = H at hP hS ⊢
  have hP : va_P D vwCl [(h0, .inr (4, [.null, .null, .null, .null])), (q5, .inr (0, [.int 0, .ref (u9 0)])), (u9 0, qc_r cA 10 (u9 0)), ((u9 0) + 1 + 0, qc_f cI 11 (fun _ => 0)), ((u9 0) + 1 + 1, qc_f cI 11 (fun _ => 0)), ((u9 0) + 1 + 2, qc_f cI 11 (fun _ => 0)), ((u9 0) + 1 + 3, qc_f cI 11 (fun _ => 0)), ((u9 0) + 1 + 4, qc_f cI 11 (fun _ => 0)), ((u9 0) + 1 + 5, qc_f cI 11 (fun _ => 0)), ((u9 0) + 1 + 6, qc_f cI 11 (fun _ => 0)), ((u9 0) + 1 + 7, qc_f cI 11 (fun _ => 0)), ((u9 0) + 1 + 8, qc_f cI 11 (fun _ => 0)), ((u9 0) + 1 + 9, qc_f cI 11 (fun _ => 0))] H := hP
  have hD : va_D A [(h0, .inr (4, [.null, .null, .null, .null])), (q5, .inr (0, [.int 0, .ref (u9 0)])), (u9 0, qc_r cA 10 (u9 0)), ((u9 0) + 1 + 0, qc_f cI 11 (fun _ => 0)), ((u9 0) + 1 + 1, qc_f cI 11 (fun _ => 0)), ((u9 0) + 1 + 2, qc_f cI 11 (fun _ => 0)), ((u9 0) + 1 + 3, qc_f cI 11 (fun _ => 0)), ((u9 0) + 1 + 4, qc_f cI 11 (fun _ => 0)), ((u9 0) + 1 + 5, qc_f cI 11 (fun _ => 0)), ((u9 0) + 1 + 6, qc_f cI 11 (fun _ => 0)), ((u9 0) + 1 + 7, qc_f cI 11 (fun _ => 0)), ((u9 0) + 1 + 8, qc_f cI 11 (fun _ => 0)), ((u9 0) + 1 + 9, qc_f cI 11 (fun _ => 0))] := hD
  refine W.widen (k := 12) (n := 122) (by omega) (by omega) ?_
  refine va_putF (D := D) (ci := 4) (v := .ref q5) (ty := .object "QuestionLadder$Bank") (C := RX4) (T := TX4) (N := 4) hx hb hts inlX4 tyX4 tyX4_ok nmX4 hown hK hP hD hS 0 rfl rfl 0 (by decide) (hts (.fieldLink RX4 12 "QuestionLadder" "bank" "LQuestionLadder$Bank;") cm_15) (fun _ h9 => h9) rfl hin rfl (by decide +kernel) rfl rfl (Nat.le_of_ble_eq_true rfl) dX4_init_12 (fun H locs hP hD hS => ?_)
  have hP : va_P D vwCl [(h0, .inr (4, [.ref q5, .null, .null, .null])), (q5, .inr (0, [.int 0, .ref (u9 0)])), (u9 0, qc_r cA 10 (u9 0)), ((u9 0) + 1 + 0, qc_f cI 11 (fun _ => 0)), ((u9 0) + 1 + 1, qc_f cI 11 (fun _ => 0)), ((u9 0) + 1 + 2, qc_f cI 11 (fun _ => 0)), ((u9 0) + 1 + 3, qc_f cI 11 (fun _ => 0)), ((u9 0) + 1 + 4, qc_f cI 11 (fun _ => 0)), ((u9 0) + 1 + 5, qc_f cI 11 (fun _ => 0)), ((u9 0) + 1 + 6, qc_f cI 11 (fun _ => 0)), ((u9 0) + 1 + 7, qc_f cI 11 (fun _ => 0)), ((u9 0) + 1 + 8, qc_f cI 11 (fun _ => 0)), ((u9 0) + 1 + 9, qc_f cI 11 (fun _ => 0))] H := hP
  have hD : va_D A [(h0, .inr (4, [.ref q5, .null, .null, .null])), (q5, .inr (0, [.int 0, .ref (u9 0)])), (u9 0, qc_r cA 10 (u9 0)), ((u9 0) + 1 + 0, qc_f cI 11 (fun _ => 0)), ((u9 0) + 1 + 1, qc_f cI 11 (fun _ => 0)), ((u9 0) + 1 + 2, qc_f cI 11 (fun _ => 0)), ((u9 0) + 1 + 3, qc_f cI 11 (fun _ => 0)), ((u9 0) + 1 + 4, qc_f cI 11 (fun _ => 0)), ((u9 0) + 1 + 5, qc_f cI 11 (fun _ => 0)), ((u9 0) + 1 + 6, qc_f cI 11 (fun _ => 0)), ((u9 0) + 1 + 7, qc_f cI 11 (fun _ => 0)), ((u9 0) + 1 + 8, qc_f cI 11 (fun _ => 0)), ((u9 0) + 1 + 9, qc_f cI 11 (fun _ => 0))] := hD
  refine lv_aload_n hx hb dX4_init_15 rfl (lv_at hl 0 rfl) ?_
  refine va_new (ci := 2) (fs := [.int 0, .int 0, .int 0, .null, .null, .null]) (C := RX2) (T := TX2) (N := 6) hx hb hts inlX2 tyX2 tyX2_ok hown (hts (.classLink RX4 16 RX2) cm_16) (hts (.instantiable RX2 6) cm_17) (hts (.initialized RX2) cm_18) hK hP hD hS hA rfl (fun j hj => by rcases (show j = 0 ∨ j = 1 ∨ j = 2 ∨ j = 3 ∨ j = 4 ∨ j = 5 by omega) with rfl | rfl | rfl | rfl | rfl | rfl <;> rfl) (Nat.le_of_ble_eq_true rfl) (Nat.le_of_ble_eq_true rfl) dX4_init_16 (fun q16 H hP hD hS => ?_)
  have hP : va_P D vwCl [(h0, .inr (4, [.ref q5, .null, .null, .null])), (q5, .inr (0, [.int 0, .ref (u9 0)])), (u9 0, qc_r cA 10 (u9 0)), ((u9 0) + 1 + 0, qc_f cI 11 (fun _ => 0)), ((u9 0) + 1 + 1, qc_f cI 11 (fun _ => 0)), ((u9 0) + 1 + 2, qc_f cI 11 (fun _ => 0)), ((u9 0) + 1 + 3, qc_f cI 11 (fun _ => 0)), ((u9 0) + 1 + 4, qc_f cI 11 (fun _ => 0)), ((u9 0) + 1 + 5, qc_f cI 11 (fun _ => 0)), ((u9 0) + 1 + 6, qc_f cI 11 (fun _ => 0)), ((u9 0) + 1 + 7, qc_f cI 11 (fun _ => 0)), ((u9 0) + 1 + 8, qc_f cI 11 (fun _ => 0)), ((u9 0) + 1 + 9, qc_f cI 11 (fun _ => 0)), (q16, .inr (2, [.int 0, .int 0, .int 0, .null, .null, .null]))] H := hP
  have hD : va_D A [(h0, .inr (4, [.ref q5, .null, .null, .null])), (q5, .inr (0, [.int 0, .ref (u9 0)])), (u9 0, qc_r cA 10 (u9 0)), ((u9 0) + 1 + 0, qc_f cI 11 (fun _ => 0)), ((u9 0) + 1 + 1, qc_f cI 11 (fun _ => 0)), ((u9 0) + 1 + 2, qc_f cI 11 (fun _ => 0)), ((u9 0) + 1 + 3, qc_f cI 11 (fun _ => 0)), ((u9 0) + 1 + 4, qc_f cI 11 (fun _ => 0)), ((u9 0) + 1 + 5, qc_f cI 11 (fun _ => 0)), ((u9 0) + 1 + 6, qc_f cI 11 (fun _ => 0)), ((u9 0) + 1 + 7, qc_f cI 11 (fun _ => 0)), ((u9 0) + 1 + 8, qc_f cI 11 (fun _ => 0)), ((u9 0) + 1 + 9, qc_f cI 11 (fun _ => 0)), (q16, .inr (2, [.int 0, .int 0, .int 0, .null, .null, .null]))] := hD
  refine W.widen (k := 13) (n := 128) (by omega) (by omega) ?_
  refine lv_dup hx hb dX4_init_19 rfl ?_
  have hPc := hP.sub (ws' := [(q16, .inr (2, [.int 0, .int 0, .int 0, .null, .null, .null]))]) [13] rfl
  have hDc := hD.sub (ws' := [(q16, .inr (2, [.int 0, .int 0, .int 0, .null, .null, .null]))]) [13] (by decide) rfl
  have hFc := va_free (wc := [(q16, .inr (2, [.int 0, .int 0, .int 0, .null, .null, .null]))]) hD hS hA [13] rfl
  refine va_callv (va_runI (As := []) (rest := [.ref q16, .ref h0]) ⟨hx, hb, hml, hown, hts⟩ (cb_X2 l D cI cZ cA q16 H.size) (cwI 0 hts (q_goodC cm_36 rfl q_goodB) rfl rfl rfl (hts (.initialized RX2) cm_18) (hts (.methodLink RX4 18 yX2_init) cm_34) (hts (.instanceMethod yX2_init) cm_35) rfl (by decide +kernel) ⟨(Nat.le_of_ble_eq_true rfl), (Nat.le_of_ble_eq_true rfl)⟩) ⟨qb_blind, fun U hU hW => ⟨rfl, by rw [hU], by rw [hU]; exact hPc, va_K.moved hW.alike hK, hDc.weaken (fun _ _ _ _ => trivial), hAA.moved hW.alike, qb_NW.warm hW hBW⟩⟩ rfl rfl hl.1 rfl (lv_room (Nat.le_of_ble_eq_true rfl)) dX4_init_20 ⟨(Nat.le_of_ble_eq_true rfl), (Nat.le_of_ble_eq_true rfl)⟩) hS (fun q _ h => hFc q h) hFc (fun u20 t H1 locs ht hvm hw hB hz1 hk1 hS => ?_)
  obtain ⟨hP1, hD1⟩ := hB
  rw [ht] at hP1
  obtain ⟨hP, hD⟩ := va_join (wr := [(h0, .inr (4, [.ref q5, .null, .null, .null])), (q5, .inr (0, [.int 0, .ref (u9 0)])), (u9 0, qc_r cA 10 (u9 0)), ((u9 0) + 1 + 0, qc_f cI 11 (fun _ => 0)), ((u9 0) + 1 + 1, qc_f cI 11 (fun _ => 0)), ((u9 0) + 1 + 2, qc_f cI 11 (fun _ => 0)), ((u9 0) + 1 + 3, qc_f cI 11 (fun _ => 0)), ((u9 0) + 1 + 4, qc_f cI 11 (fun _ => 0)), ((u9 0) + 1 + 5, qc_f cI 11 (fun _ => 0)), ((u9 0) + 1 + 6, qc_f cI 11 (fun _ => 0)), ((u9 0) + 1 + 7, qc_f cI 11 (fun _ => 0)), ((u9 0) + 1 + 8, qc_f cI 11 (fun _ => 0)), ((u9 0) + 1 + 9, qc_f cI 11 (fun _ => 0))]) (w1 := qw_X2 cI cZ cA q16 u20) hP hD [13] [0, 1, 2, 3, 4, 5, 6, 7, 8, 9, 10, 11, 12] rfl rfl (by decide) (by decide) hk1 hFc hP1 hD1
  generalize H1 = H at hP hS ⊢
  have hP : va_P D vwCl [(h0, .inr (4, [.ref q5, .null, .null, .null])), (q5, .inr (0, [.int 0, .ref (u9 0)])), (u9 0, qc_r cA 10 (u9 0)), ((u9 0) + 1 + 0, qc_f cI 11 (fun _ => 0)), ((u9 0) + 1 + 1, qc_f cI 11 (fun _ => 0)), ((u9 0) + 1 + 2, qc_f cI 11 (fun _ => 0)), ((u9 0) + 1 + 3, qc_f cI 11 (fun _ => 0)), ((u9 0) + 1 + 4, qc_f cI 11 (fun _ => 0)), ((u9 0) + 1 + 5, qc_f cI 11 (fun _ => 0)), ((u9 0) + 1 + 6, qc_f cI 11 (fun _ => 0)), ((u9 0) + 1 + 7, qc_f cI 11 (fun _ => 0)), ((u9 0) + 1 + 8, qc_f cI 11 (fun _ => 0)), ((u9 0) + 1 + 9, qc_f cI 11 (fun _ => 0)), (q16, .inr (2, [.int 4, .int 9, .int 10, .ref (u20 0), .ref (u20 1), .ref (u20 2)])), (u20 0, qc_f cI 3 (fun _ => 0)), (u20 1, qc_f cI 3 (upd (upd (upd (fun _ => 0) 0 6) 1 6) 2 6)), (u20 2, qc_f cI 6 (upd (upd (upd (upd (upd (upd (fun _ => 0) 0 1) 1 1) 2 1) 3 1) 4 1) 5 1))] H := hP
  have hD : va_D A [(h0, .inr (4, [.ref q5, .null, .null, .null])), (q5, .inr (0, [.int 0, .ref (u9 0)])), (u9 0, qc_r cA 10 (u9 0)), ((u9 0) + 1 + 0, qc_f cI 11 (fun _ => 0)), ((u9 0) + 1 + 1, qc_f cI 11 (fun _ => 0)), ((u9 0) + 1 + 2, qc_f cI 11 (fun _ => 0)), ((u9 0) + 1 + 3, qc_f cI 11 (fun _ => 0)), ((u9 0) + 1 + 4, qc_f cI 11 (fun _ => 0)), ((u9 0) + 1 + 5, qc_f cI 11 (fun _ => 0)), ((u9 0) + 1 + 6, qc_f cI 11 (fun _ => 0)), ((u9 0) + 1 + 7, qc_f cI 11 (fun _ => 0)), ((u9 0) + 1 + 8, qc_f cI 11 (fun _ => 0)), ((u9 0) + 1 + 9, qc_f cI 11 (fun _ => 0)), (q16, .inr (2, [.int 4, .int 9, .int 10, .ref (u20 0), .ref (u20 1), .ref (u20 2)])), (u20 0, qc_f cI 3 (fun _ => 0)), (u20 1, qc_f cI 3 (upd (upd (upd (fun _ => 0) 0 6) 1 6) 2 6)), (u20 2, qc_f cI 6 (upd (upd (upd (upd (upd (upd (fun _ => 0) 0 1) 1 1) 2 1) 3 1) 4 1) 5 1))] := hD
  refine W.widen (k := 16) (n := 140) (by omega) (by omega) ?_
  refine va_putF (D := D) (ci := 4) (v := .ref q16) (ty := .object "QuestionLadder$Rules") (C := RX4) (T := TX4) (N := 4) hx hb hts inlX4 tyX4 tyX4_ok nmX4 hown hK hP hD hS 0 rfl rfl 1 (by decide) (hts (.fieldLink RX4 19 "QuestionLadder" "rules" "LQuestionLadder$Rules;") cm_19) (fun _ h9 => h9) rfl hin rfl (by decide +kernel) rfl rfl (Nat.le_of_ble_eq_true rfl) dX4_init_23 (fun H locs hP hD hS => ?_)
  have hP : va_P D vwCl [(h0, .inr (4, [.ref q5, .ref q16, .null, .null])), (q5, .inr (0, [.int 0, .ref (u9 0)])), (u9 0, qc_r cA 10 (u9 0)), ((u9 0) + 1 + 0, qc_f cI 11 (fun _ => 0)), ((u9 0) + 1 + 1, qc_f cI 11 (fun _ => 0)), ((u9 0) + 1 + 2, qc_f cI 11 (fun _ => 0)), ((u9 0) + 1 + 3, qc_f cI 11 (fun _ => 0)), ((u9 0) + 1 + 4, qc_f cI 11 (fun _ => 0)), ((u9 0) + 1 + 5, qc_f cI 11 (fun _ => 0)), ((u9 0) + 1 + 6, qc_f cI 11 (fun _ => 0)), ((u9 0) + 1 + 7, qc_f cI 11 (fun _ => 0)), ((u9 0) + 1 + 8, qc_f cI 11 (fun _ => 0)), ((u9 0) + 1 + 9, qc_f cI 11 (fun _ => 0)), (q16, .inr (2, [.int 4, .int 9, .int 10, .ref (u20 0), .ref (u20 1), .ref (u20 2)])), (u20 0, qc_f cI 3 (fun _ => 0)), (u20 1, qc_f cI 3 (upd (upd (upd (fun _ => 0) 0 6) 1 6) 2 6)), (u20 2, qc_f cI 6 (upd (upd (upd (upd (upd (upd (fun _ => 0) 0 1) 1 1) 2 1) 3 1) 4 1) 5 1))] H := hP
  have hD : va_D A [(h0, .inr (4, [.ref q5, .ref q16, .null, .null])), (q5, .inr (0, [.int 0, .ref (u9 0)])), (u9 0, qc_r cA 10 (u9 0)), ((u9 0) + 1 + 0, qc_f cI 11 (fun _ => 0)), ((u9 0) + 1 + 1, qc_f cI 11 (fun _ => 0)), ((u9 0) + 1 + 2, qc_f cI 11 (fun _ => 0)), ((u9 0) + 1 + 3, qc_f cI 11 (fun _ => 0)), ((u9 0) + 1 + 4, qc_f cI 11 (fun _ => 0)), ((u9 0) + 1 + 5, qc_f cI 11 (fun _ => 0)), ((u9 0) + 1 + 6, qc_f cI 11 (fun _ => 0)), ((u9 0) + 1 + 7, qc_f cI 11 (fun _ => 0)), ((u9 0) + 1 + 8, qc_f cI 11 (fun _ => 0)), ((u9 0) + 1 + 9, qc_f cI 11 (fun _ => 0)), (q16, .inr (2, [.int 4, .int 9, .int 10, .ref (u20 0), .ref (u20 1), .ref (u20 2)])), (u20 0, qc_f cI 3 (fun _ => 0)), (u20 1, qc_f cI 3 (upd (upd (upd (fun _ => 0) 0 6) 1 6) 2 6)), (u20 2, qc_f cI 6 (upd (upd (upd (upd (upd (upd (fun _ => 0) 0 1) 1 1) 2 1) 3 1) 4 1) 5 1))] := hD
  refine lv_aload_n hx hb dX4_init_26 rfl (lv_at hl 0 rfl) ?_
  refine va_new (ci := 1) (fs := [.int 0, .int 0, .int 0, .null, .null, .null, .null, .null]) (C := RX1) (T := TX1) (N := 8) hx hb hts inlX1 tyX1 tyX1_ok hown (hts (.classLink RX4 23 RX1) cm_20) (hts (.instantiable RX1 8) cm_21) (hts (.initialized RX1) cm_22) hK hP hD hS hA rfl (fun j hj => by rcases (show j = 0 ∨ j = 1 ∨ j = 2 ∨ j = 3 ∨ j = 4 ∨ j = 5 ∨ j = 6 ∨ j = 7 by omega) with rfl | rfl | rfl | rfl | rfl | rfl | rfl | rfl <;> rfl) (Nat.le_of_ble_eq_true rfl) (Nat.le_of_ble_eq_true rfl) dX4_init_27 (fun q27 H hP hD hS => ?_)
  have hP : va_P D vwCl [(h0, .inr (4, [.ref q5, .ref q16, .null, .null])), (q5, .inr (0, [.int 0, .ref (u9 0)])), (u9 0, qc_r cA 10 (u9 0)), ((u9 0) + 1 + 0, qc_f cI 11 (fun _ => 0)), ((u9 0) + 1 + 1, qc_f cI 11 (fun _ => 0)), ((u9 0) + 1 + 2, qc_f cI 11 (fun _ => 0)), ((u9 0) + 1 + 3, qc_f cI 11 (fun _ => 0)), ((u9 0) + 1 + 4, qc_f cI 11 (fun _ => 0)), ((u9 0) + 1 + 5, qc_f cI 11 (fun _ => 0)), ((u9 0) + 1 + 6, qc_f cI 11 (fun _ => 0)), ((u9 0) + 1 + 7, qc_f cI 11 (fun _ => 0)), ((u9 0) + 1 + 8, qc_f cI 11 (fun _ => 0)), ((u9 0) + 1 + 9, qc_f cI 11 (fun _ => 0)), (q16, .inr (2, [.int 4, .int 9, .int 10, .ref (u20 0), .ref (u20 1), .ref (u20 2)])), (u20 0, qc_f cI 3 (fun _ => 0)), (u20 1, qc_f cI 3 (upd (upd (upd (fun _ => 0) 0 6) 1 6) 2 6)), (u20 2, qc_f cI 6 (upd (upd (upd (upd (upd (upd (fun _ => 0) 0 1) 1 1) 2 1) 3 1) 4 1) 5 1)), (q27, .inr (1, [.int 0, .int 0, .int 0, .null, .null, .null, .null, .null]))] H := hP
  have hD : va_D A [(h0, .inr (4, [.ref q5, .ref q16, .null, .null])), (q5, .inr (0, [.int 0, .ref (u9 0)])), (u9 0, qc_r cA 10 (u9 0)), ((u9 0) + 1 + 0, qc_f cI 11 (fun _ => 0)), ((u9 0) + 1 + 1, qc_f cI 11 (fun _ => 0)), ((u9 0) + 1 + 2, qc_f cI 11 (fun _ => 0)), ((u9 0) + 1 + 3, qc_f cI 11 (fun _ => 0)), ((u9 0) + 1 + 4, qc_f cI 11 (fun _ => 0)), ((u9 0) + 1 + 5, qc_f cI 11 (fun _ => 0)), ((u9 0) + 1 + 6, qc_f cI 11 (fun _ => 0)), ((u9 0) + 1 + 7, qc_f cI 11 (fun _ => 0)), ((u9 0) + 1 + 8, qc_f cI 11 (fun _ => 0)), ((u9 0) + 1 + 9, qc_f cI 11 (fun _ => 0)), (q16, .inr (2, [.int 4, .int 9, .int 10, .ref (u20 0), .ref (u20 1), .ref (u20 2)])), (u20 0, qc_f cI 3 (fun _ => 0)), (u20 1, qc_f cI 3 (upd (upd (upd (fun _ => 0) 0 6) 1 6) 2 6)), (u20 2, qc_f cI 6 (upd (upd (upd (upd (upd (upd (fun _ => 0) 0 1) 1 1) 2 1) 3 1) 4 1) 5 1)), (q27, .inr (1, [.int 0, .int 0, .int 0, .null, .null, .null, .null, .null]))] := hD
  refine W.widen (k := 17) (n := 148) (by omega) (by omega) ?_
  refine lv_dup hx hb dX4_init_30 rfl ?_
  have hPc := hP.sub (ws' := [(q27, .inr (1, [.int 0, .int 0, .int 0, .null, .null, .null, .null, .null]))]) [17] rfl
  have hDc := hD.sub (ws' := [(q27, .inr (1, [.int 0, .int 0, .int 0, .null, .null, .null, .null, .null]))]) [17] (by decide) rfl
  have hFc := va_free (wc := [(q27, .inr (1, [.int 0, .int 0, .int 0, .null, .null, .null, .null, .null]))]) hD hS hA [17] rfl
  refine va_callv (va_runIN (As := []) (rest := [.ref q27, .ref h0]) ⟨hx, hb, hml, hown, hts⟩ (cb_X1 l D cI cZ cA q27 H.size) ⟨va_cnB (bytes := cX1_init) (maxL := 1) (ret := none) 0 hts (q_goodC cm_45 rfl q_goodB) rfl rfl rfl (hBW (RX4, 25, yX1_init, "QuestionLadder") (by simp [qb_nw])) (hts (.initialized RX1) cm_22) (by decide +kernel) ⟨(Nat.le_of_ble_eq_true rfl), (Nat.le_of_ble_eq_true rfl)⟩, rfl, (hts (.instanceMethod yX1_init) cm_44)⟩ ⟨qb_blind, fun U hU hW => ⟨rfl, by rw [hU], by rw [hU]; exact hPc, va_K.moved hW.alike hK, hDc.weaken (fun _ _ _ _ => trivial), hAA.moved hW.alike, qb_NW.warm hW hBW⟩⟩ rfl rfl hl.1 rfl (lv_room (Nat.le_of_ble_eq_true rfl)) dX4_init_31 ⟨(Nat.le_of_ble_eq_true rfl), (Nat.le_of_ble_eq_true rfl)⟩) hS (fun q _ h => hFc q h) hFc (fun u31 t H1 locs ht hvm hw hB hz1 hk1 hS => ?_)
  obtain ⟨hP1, hD1⟩ := hB
  rw [ht] at hP1
  obtain ⟨hP, hD⟩ := va_join (wr := [(h0, .inr (4, [.ref q5, .ref q16, .null, .null])), (q5, .inr (0, [.int 0, .ref (u9 0)])), (u9 0, qc_r cA 10 (u9 0)), ((u9 0) + 1 + 0, qc_f cI 11 (fun _ => 0)), ((u9 0) + 1 + 1, qc_f cI 11 (fun _ => 0)), ((u9 0) + 1 + 2, qc_f cI 11 (fun _ => 0)), ((u9 0) + 1 + 3, qc_f cI 11 (fun _ => 0)), ((u9 0) + 1 + 4, qc_f cI 11 (fun _ => 0)), ((u9 0) + 1 + 5, qc_f cI 11 (fun _ => 0)), ((u9 0) + 1 + 6, qc_f cI 11 (fun _ => 0)), ((u9 0) + 1 + 7, qc_f cI 11 (fun _ => 0)), ((u9 0) + 1 + 8, qc_f cI 11 (fun _ => 0)), ((u9 0) + 1 + 9, qc_f cI 11 (fun _ => 0)), (q16, .inr (2, [.int 4, .int 9, .int 10, .ref (u20 0), .ref (u20 1), .ref (u20 2)])), (u20 0, qc_f cI 3 (fun _ => 0)), (u20 1, qc_f cI 3 (upd (upd (upd (fun _ => 0) 0 6) 1 6) 2 6)), (u20 2, qc_f cI 6 (upd (upd (upd (upd (upd (upd (fun _ => 0) 0 1) 1 1) 2 1) 3 1) 4 1) 5 1))]) (w1 := qw_X1 cI cZ cA q27 u31) hP hD [17] [0, 1, 2, 3, 4, 5, 6, 7, 8, 9, 10, 11, 12, 13, 14, 15, 16] rfl rfl (by decide) (by decide) hk1 hFc hP1 hD1
  generalize H1 = H at hP hS ⊢
  have hP : va_P D vwCl [(h0, .inr (4, [.ref q5, .ref q16, .null, .null])), (q5, .inr (0, [.int 0, .ref (u9 0)])), (u9 0, qc_r cA 10 (u9 0)), ((u9 0) + 1 + 0, qc_f cI 11 (fun _ => 0)), ((u9 0) + 1 + 1, qc_f cI 11 (fun _ => 0)), ((u9 0) + 1 + 2, qc_f cI 11 (fun _ => 0)), ((u9 0) + 1 + 3, qc_f cI 11 (fun _ => 0)), ((u9 0) + 1 + 4, qc_f cI 11 (fun _ => 0)), ((u9 0) + 1 + 5, qc_f cI 11 (fun _ => 0)), ((u9 0) + 1 + 6, qc_f cI 11 (fun _ => 0)), ((u9 0) + 1 + 7, qc_f cI 11 (fun _ => 0)), ((u9 0) + 1 + 8, qc_f cI 11 (fun _ => 0)), ((u9 0) + 1 + 9, qc_f cI 11 (fun _ => 0)), (q16, .inr (2, [.int 4, .int 9, .int 10, .ref (u20 0), .ref (u20 1), .ref (u20 2)])), (u20 0, qc_f cI 3 (fun _ => 0)), (u20 1, qc_f cI 3 (upd (upd (upd (fun _ => 0) 0 6) 1 6) 2 6)), (u20 2, qc_f cI 6 (upd (upd (upd (upd (upd (upd (fun _ => 0) 0 1) 1 1) 2 1) 3 1) 4 1) 5 1)), (q27, .inr (1, [.int 0, .int 0, .int 0, .ref (u31 0), .ref (u31 1), .ref (u31 2), .ref (u31 3), .ref (u31 4)])), (u31 0, qc_f cI 3 (fun _ => 0)), (u31 1, qc_f cI 3 (fun _ => 0)), (u31 2, qc_f cI 3 (fun _ => 0)), (u31 3, qc_f cZ 1024 (fun _ => 0)), (u31 4, qc_f cZ 1024 (fun _ => 0))] H := hP
  have hD : va_D A [(h0, .inr (4, [.ref q5, .ref q16, .null, .null])), (q5, .inr (0, [.int 0, .ref (u9 0)])), (u9 0, qc_r cA 10 (u9 0)), ((u9 0) + 1 + 0, qc_f cI 11 (fun _ => 0)), ((u9 0) + 1 + 1, qc_f cI 11 (fun _ => 0)), ((u9 0) + 1 + 2, qc_f cI 11 (fun _ => 0)), ((u9 0) + 1 + 3, qc_f cI 11 (fun _ => 0)), ((u9 0) + 1 + 4, qc_f cI 11 (fun _ => 0)), ((u9 0) + 1 + 5, qc_f cI 11 (fun _ => 0)), ((u9 0) + 1 + 6, qc_f cI 11 (fun _ => 0)), ((u9 0) + 1 + 7, qc_f cI 11 (fun _ => 0)), ((u9 0) + 1 + 8, qc_f cI 11 (fun _ => 0)), ((u9 0) + 1 + 9, qc_f cI 11 (fun _ => 0)), (q16, .inr (2, [.int 4, .int 9, .int 10, .ref (u20 0), .ref (u20 1), .ref (u20 2)])), (u20 0, qc_f cI 3 (fun _ => 0)), (u20 1, qc_f cI 3 (upd (upd (upd (fun _ => 0) 0 6) 1 6) 2 6)), (u20 2, qc_f cI 6 (upd (upd (upd (upd (upd (upd (fun _ => 0) 0 1) 1 1) 2 1) 3 1) 4 1) 5 1)), (q27, .inr (1, [.int 0, .int 0, .int 0, .ref (u31 0), .ref (u31 1), .ref (u31 2), .ref (u31 3), .ref (u31 4)])), (u31 0, qc_f cI 3 (fun _ => 0)), (u31 1, qc_f cI 3 (fun _ => 0)), (u31 2, qc_f cI 3 (fun _ => 0)), (u31 3, qc_f cZ 1024 (fun _ => 0)), (u31 4, qc_f cZ 1024 (fun _ => 0))] := hD
  refine W.widen (k := 22) (n := 2205) (by omega) (by omega) ?_
  refine va_putF (D := D) (ci := 4) (v := .ref q27) (ty := .object "QuestionLadder$FitSets") (C := RX4) (T := TX4) (N := 4) hx hb hts inlX4 tyX4 tyX4_ok nmX4 hown hK hP hD hS 0 rfl rfl 2 (by decide) (hts (.fieldLink RX4 26 "QuestionLadder" "sets" "LQuestionLadder$FitSets;") cm_23) (fun _ h9 => h9) rfl hin rfl (by decide +kernel) rfl rfl (Nat.le_of_ble_eq_true rfl) dX4_init_34 (fun H locs hP hD hS => ?_)
  have hP : va_P D vwCl [(h0, .inr (4, [.ref q5, .ref q16, .ref q27, .null])), (q5, .inr (0, [.int 0, .ref (u9 0)])), (u9 0, qc_r cA 10 (u9 0)), ((u9 0) + 1 + 0, qc_f cI 11 (fun _ => 0)), ((u9 0) + 1 + 1, qc_f cI 11 (fun _ => 0)), ((u9 0) + 1 + 2, qc_f cI 11 (fun _ => 0)), ((u9 0) + 1 + 3, qc_f cI 11 (fun _ => 0)), ((u9 0) + 1 + 4, qc_f cI 11 (fun _ => 0)), ((u9 0) + 1 + 5, qc_f cI 11 (fun _ => 0)), ((u9 0) + 1 + 6, qc_f cI 11 (fun _ => 0)), ((u9 0) + 1 + 7, qc_f cI 11 (fun _ => 0)), ((u9 0) + 1 + 8, qc_f cI 11 (fun _ => 0)), ((u9 0) + 1 + 9, qc_f cI 11 (fun _ => 0)), (q16, .inr (2, [.int 4, .int 9, .int 10, .ref (u20 0), .ref (u20 1), .ref (u20 2)])), (u20 0, qc_f cI 3 (fun _ => 0)), (u20 1, qc_f cI 3 (upd (upd (upd (fun _ => 0) 0 6) 1 6) 2 6)), (u20 2, qc_f cI 6 (upd (upd (upd (upd (upd (upd (fun _ => 0) 0 1) 1 1) 2 1) 3 1) 4 1) 5 1)), (q27, .inr (1, [.int 0, .int 0, .int 0, .ref (u31 0), .ref (u31 1), .ref (u31 2), .ref (u31 3), .ref (u31 4)])), (u31 0, qc_f cI 3 (fun _ => 0)), (u31 1, qc_f cI 3 (fun _ => 0)), (u31 2, qc_f cI 3 (fun _ => 0)), (u31 3, qc_f cZ 1024 (fun _ => 0)), (u31 4, qc_f cZ 1024 (fun _ => 0))] H := hP
  have hD : va_D A [(h0, .inr (4, [.ref q5, .ref q16, .ref q27, .null])), (q5, .inr (0, [.int 0, .ref (u9 0)])), (u9 0, qc_r cA 10 (u9 0)), ((u9 0) + 1 + 0, qc_f cI 11 (fun _ => 0)), ((u9 0) + 1 + 1, qc_f cI 11 (fun _ => 0)), ((u9 0) + 1 + 2, qc_f cI 11 (fun _ => 0)), ((u9 0) + 1 + 3, qc_f cI 11 (fun _ => 0)), ((u9 0) + 1 + 4, qc_f cI 11 (fun _ => 0)), ((u9 0) + 1 + 5, qc_f cI 11 (fun _ => 0)), ((u9 0) + 1 + 6, qc_f cI 11 (fun _ => 0)), ((u9 0) + 1 + 7, qc_f cI 11 (fun _ => 0)), ((u9 0) + 1 + 8, qc_f cI 11 (fun _ => 0)), ((u9 0) + 1 + 9, qc_f cI 11 (fun _ => 0)), (q16, .inr (2, [.int 4, .int 9, .int 10, .ref (u20 0), .ref (u20 1), .ref (u20 2)])), (u20 0, qc_f cI 3 (fun _ => 0)), (u20 1, qc_f cI 3 (upd (upd (upd (fun _ => 0) 0 6) 1 6) 2 6)), (u20 2, qc_f cI 6 (upd (upd (upd (upd (upd (upd (fun _ => 0) 0 1) 1 1) 2 1) 3 1) 4 1) 5 1)), (q27, .inr (1, [.int 0, .int 0, .int 0, .ref (u31 0), .ref (u31 1), .ref (u31 2), .ref (u31 3), .ref (u31 4)])), (u31 0, qc_f cI 3 (fun _ => 0)), (u31 1, qc_f cI 3 (fun _ => 0)), (u31 2, qc_f cI 3 (fun _ => 0)), (u31 3, qc_f cZ 1024 (fun _ => 0)), (u31 4, qc_f cZ 1024 (fun _ => 0))] := hD
  refine lv_aload_n hx hb dX4_init_37 rfl (lv_at hl 0 rfl) ?_
  refine va_new (ci := 3) (fs := [.int 0, .int 0, .int 0, .int 0, .null, .null, .null]) (C := RX3) (T := TX3) (N := 7) hx hb hts inlX3 tyX3 tyX3_ok hown (hts (.classLink RX4 30 RX3) cm_24) (hts (.instantiable RX3 7) cm_25) (hts (.initialized RX3) cm_26) hK hP hD hS hA rfl (fun j hj => by rcases (show j = 0 ∨ j = 1 ∨ j = 2 ∨ j = 3 ∨ j = 4 ∨ j = 5 ∨ j = 6 by omega) with rfl | rfl | rfl | rfl | rfl | rfl | rfl <;> rfl) (Nat.le_of_ble_eq_true rfl) (Nat.le_of_ble_eq_true rfl) dX4_init_38 (fun q38 H hP hD hS => ?_)
  have hP : va_P D vwCl [(h0, .inr (4, [.ref q5, .ref q16, .ref q27, .null])), (q5, .inr (0, [.int 0, .ref (u9 0)])), (u9 0, qc_r cA 10 (u9 0)), ((u9 0) + 1 + 0, qc_f cI 11 (fun _ => 0)), ((u9 0) + 1 + 1, qc_f cI 11 (fun _ => 0)), ((u9 0) + 1 + 2, qc_f cI 11 (fun _ => 0)), ((u9 0) + 1 + 3, qc_f cI 11 (fun _ => 0)), ((u9 0) + 1 + 4, qc_f cI 11 (fun _ => 0)), ((u9 0) + 1 + 5, qc_f cI 11 (fun _ => 0)), ((u9 0) + 1 + 6, qc_f cI 11 (fun _ => 0)), ((u9 0) + 1 + 7, qc_f cI 11 (fun _ => 0)), ((u9 0) + 1 + 8, qc_f cI 11 (fun _ => 0)), ((u9 0) + 1 + 9, qc_f cI 11 (fun _ => 0)), (q16, .inr (2, [.int 4, .int 9, .int 10, .ref (u20 0), .ref (u20 1), .ref (u20 2)])), (u20 0, qc_f cI 3 (fun _ => 0)), (u20 1, qc_f cI 3 (upd (upd (upd (fun _ => 0) 0 6) 1 6) 2 6)), (u20 2, qc_f cI 6 (upd (upd (upd (upd (upd (upd (fun _ => 0) 0 1) 1 1) 2 1) 3 1) 4 1) 5 1)), (q27, .inr (1, [.int 0, .int 0, .int 0, .ref (u31 0), .ref (u31 1), .ref (u31 2), .ref (u31 3), .ref (u31 4)])), (u31 0, qc_f cI 3 (fun _ => 0)), (u31 1, qc_f cI 3 (fun _ => 0)), (u31 2, qc_f cI 3 (fun _ => 0)), (u31 3, qc_f cZ 1024 (fun _ => 0)), (u31 4, qc_f cZ 1024 (fun _ => 0)), (q38, .inr (3, [.int 0, .int 0, .int 0, .int 0, .null, .null, .null]))] H := hP
  have hD : va_D A [(h0, .inr (4, [.ref q5, .ref q16, .ref q27, .null])), (q5, .inr (0, [.int 0, .ref (u9 0)])), (u9 0, qc_r cA 10 (u9 0)), ((u9 0) + 1 + 0, qc_f cI 11 (fun _ => 0)), ((u9 0) + 1 + 1, qc_f cI 11 (fun _ => 0)), ((u9 0) + 1 + 2, qc_f cI 11 (fun _ => 0)), ((u9 0) + 1 + 3, qc_f cI 11 (fun _ => 0)), ((u9 0) + 1 + 4, qc_f cI 11 (fun _ => 0)), ((u9 0) + 1 + 5, qc_f cI 11 (fun _ => 0)), ((u9 0) + 1 + 6, qc_f cI 11 (fun _ => 0)), ((u9 0) + 1 + 7, qc_f cI 11 (fun _ => 0)), ((u9 0) + 1 + 8, qc_f cI 11 (fun _ => 0)), ((u9 0) + 1 + 9, qc_f cI 11 (fun _ => 0)), (q16, .inr (2, [.int 4, .int 9, .int 10, .ref (u20 0), .ref (u20 1), .ref (u20 2)])), (u20 0, qc_f cI 3 (fun _ => 0)), (u20 1, qc_f cI 3 (upd (upd (upd (fun _ => 0) 0 6) 1 6) 2 6)), (u20 2, qc_f cI 6 (upd (upd (upd (upd (upd (upd (fun _ => 0) 0 1) 1 1) 2 1) 3 1) 4 1) 5 1)), (q27, .inr (1, [.int 0, .int 0, .int 0, .ref (u31 0), .ref (u31 1), .ref (u31 2), .ref (u31 3), .ref (u31 4)])), (u31 0, qc_f cI 3 (fun _ => 0)), (u31 1, qc_f cI 3 (fun _ => 0)), (u31 2, qc_f cI 3 (fun _ => 0)), (u31 3, qc_f cZ 1024 (fun _ => 0)), (u31 4, qc_f cZ 1024 (fun _ => 0)), (q38, .inr (3, [.int 0, .int 0, .int 0, .int 0, .null, .null, .null]))] := hD
  refine W.widen (k := 23) (n := 2212) (by omega) (by omega) ?_
  refine lv_dup hx hb dX4_init_41 rfl ?_
  have hPc := hP.sub (ws' := [(q38, .inr (3, [.int 0, .int 0, .int 0, .int 0, .null, .null, .null]))]) [23] rfl
  have hDc := hD.sub (ws' := [(q38, .inr (3, [.int 0, .int 0, .int 0, .int 0, .null, .null, .null]))]) [23] (by decide) rfl
  have hFc := va_free (wc := [(q38, .inr (3, [.int 0, .int 0, .int 0, .int 0, .null, .null, .null]))]) hD hS hA [23] rfl
  refine va_callv (va_runIN (As := []) (rest := [.ref q38, .ref h0]) ⟨hx, hb, hml, hown, hts⟩ (cb_X3 l D cI cZ cA q38 H.size) ⟨va_cnB (bytes := cX3_init) (maxL := 1) (ret := none) 0 hts (q_goodC cm_54 rfl q_goodB) rfl rfl rfl (hBW (RX4, 32, yX3_init, "QuestionLadder") (by simp [qb_nw])) (hts (.initialized RX3) cm_26) (by decide +kernel) ⟨(Nat.le_of_ble_eq_true rfl), (Nat.le_of_ble_eq_true rfl)⟩, rfl, (hts (.instanceMethod yX3_init) cm_53)⟩ ⟨qb_blind, fun U hU hW => ⟨rfl, by rw [hU], by rw [hU]; exact hPc, va_K.moved hW.alike hK, hDc.weaken (fun _ _ _ _ => trivial), hAA.moved hW.alike, qb_NW.warm hW hBW⟩⟩ rfl rfl hl.1 rfl (lv_room (Nat.le_of_ble_eq_true rfl)) dX4_init_42 ⟨(Nat.le_of_ble_eq_true rfl), (Nat.le_of_ble_eq_true rfl)⟩) hS (fun q _ h => hFc q h) hFc (fun u42 t H1 locs ht hvm hw hB hz1 hk1 hS => ?_)
  obtain ⟨hP1, hD1⟩ := hB
  rw [ht] at hP1
  obtain ⟨hP, hD⟩ := va_join (wr := [(h0, .inr (4, [.ref q5, .ref q16, .ref q27, .null])), (q5, .inr (0, [.int 0, .ref (u9 0)])), (u9 0, qc_r cA 10 (u9 0)), ((u9 0) + 1 + 0, qc_f cI 11 (fun _ => 0)), ((u9 0) + 1 + 1, qc_f cI 11 (fun _ => 0)), ((u9 0) + 1 + 2, qc_f cI 11 (fun _ => 0)), ((u9 0) + 1 + 3, qc_f cI 11 (fun _ => 0)), ((u9 0) + 1 + 4, qc_f cI 11 (fun _ => 0)), ((u9 0) + 1 + 5, qc_f cI 11 (fun _ => 0)), ((u9 0) + 1 + 6, qc_f cI 11 (fun _ => 0)), ((u9 0) + 1 + 7, qc_f cI 11 (fun _ => 0)), ((u9 0) + 1 + 8, qc_f cI 11 (fun _ => 0)), ((u9 0) + 1 + 9, qc_f cI 11 (fun _ => 0)), (q16, .inr (2, [.int 4, .int 9, .int 10, .ref (u20 0), .ref (u20 1), .ref (u20 2)])), (u20 0, qc_f cI 3 (fun _ => 0)), (u20 1, qc_f cI 3 (upd (upd (upd (fun _ => 0) 0 6) 1 6) 2 6)), (u20 2, qc_f cI 6 (upd (upd (upd (upd (upd (upd (fun _ => 0) 0 1) 1 1) 2 1) 3 1) 4 1) 5 1)), (q27, .inr (1, [.int 0, .int 0, .int 0, .ref (u31 0), .ref (u31 1), .ref (u31 2), .ref (u31 3), .ref (u31 4)])), (u31 0, qc_f cI 3 (fun _ => 0)), (u31 1, qc_f cI 3 (fun _ => 0)), (u31 2, qc_f cI 3 (fun _ => 0)), (u31 3, qc_f cZ 1024 (fun _ => 0)), (u31 4, qc_f cZ 1024 (fun _ => 0))]) (w1 := qw_X3 cI cZ cA q38 u42) hP hD [23] [0, 1, 2, 3, 4, 5, 6, 7, 8, 9, 10, 11, 12, 13, 14, 15, 16, 17, 18, 19, 20, 21, 22] rfl rfl (by decide) (by decide) hk1 hFc hP1 hD1
  generalize H1 = H at hP hS ⊢
  have hP : va_P D vwCl [(h0, .inr (4, [.ref q5, .ref q16, .ref q27, .null])), (q5, .inr (0, [.int 0, .ref (u9 0)])), (u9 0, qc_r cA 10 (u9 0)), ((u9 0) + 1 + 0, qc_f cI 11 (fun _ => 0)), ((u9 0) + 1 + 1, qc_f cI 11 (fun _ => 0)), ((u9 0) + 1 + 2, qc_f cI 11 (fun _ => 0)), ((u9 0) + 1 + 3, qc_f cI 11 (fun _ => 0)), ((u9 0) + 1 + 4, qc_f cI 11 (fun _ => 0)), ((u9 0) + 1 + 5, qc_f cI 11 (fun _ => 0)), ((u9 0) + 1 + 6, qc_f cI 11 (fun _ => 0)), ((u9 0) + 1 + 7, qc_f cI 11 (fun _ => 0)), ((u9 0) + 1 + 8, qc_f cI 11 (fun _ => 0)), ((u9 0) + 1 + 9, qc_f cI 11 (fun _ => 0)), (q16, .inr (2, [.int 4, .int 9, .int 10, .ref (u20 0), .ref (u20 1), .ref (u20 2)])), (u20 0, qc_f cI 3 (fun _ => 0)), (u20 1, qc_f cI 3 (upd (upd (upd (fun _ => 0) 0 6) 1 6) 2 6)), (u20 2, qc_f cI 6 (upd (upd (upd (upd (upd (upd (fun _ => 0) 0 1) 1 1) 2 1) 3 1) 4 1) 5 1)), (q27, .inr (1, [.int 0, .int 0, .int 0, .ref (u31 0), .ref (u31 1), .ref (u31 2), .ref (u31 3), .ref (u31 4)])), (u31 0, qc_f cI 3 (fun _ => 0)), (u31 1, qc_f cI 3 (fun _ => 0)), (u31 2, qc_f cI 3 (fun _ => 0)), (u31 3, qc_f cZ 1024 (fun _ => 0)), (u31 4, qc_f cZ 1024 (fun _ => 0)), (q38, .inr (3, [.int 0, .int 0, .int 0, .int 0, .ref (u42 0), .ref (u42 1), .ref (u42 2)])), (u42 0, qc_f cI 6 (fun _ => 0)), (u42 1, qc_f cZ 6 (fun _ => 0)), (u42 2, qc_r cA 7 (u42 2)), ((u42 2) + 1 + 0, qc_f cI 6 (fun _ => 0)), ((u42 2) + 1 + 1, qc_f cI 6 (fun _ => 0)), ((u42 2) + 1 + 2, qc_f cI 6 (fun _ => 0)), ((u42 2) + 1 + 3, qc_f cI 6 (fun _ => 0)), ((u42 2) + 1 + 4, qc_f cI 6 (fun _ => 0)), ((u42 2) + 1 + 5, qc_f cI 6 (fun _ => 0)), ((u42 2) + 1 + 6, qc_f cI 6 (fun _ => 0))] H := hP
  have hD : va_D A [(h0, .inr (4, [.ref q5, .ref q16, .ref q27, .null])), (q5, .inr (0, [.int 0, .ref (u9 0)])), (u9 0, qc_r cA 10 (u9 0)), ((u9 0) + 1 + 0, qc_f cI 11 (fun _ => 0)), ((u9 0) + 1 + 1, qc_f cI 11 (fun _ => 0)), ((u9 0) + 1 + 2, qc_f cI 11 (fun _ => 0)), ((u9 0) + 1 + 3, qc_f cI 11 (fun _ => 0)), ((u9 0) + 1 + 4, qc_f cI 11 (fun _ => 0)), ((u9 0) + 1 + 5, qc_f cI 11 (fun _ => 0)), ((u9 0) + 1 + 6, qc_f cI 11 (fun _ => 0)), ((u9 0) + 1 + 7, qc_f cI 11 (fun _ => 0)), ((u9 0) + 1 + 8, qc_f cI 11 (fun _ => 0)), ((u9 0) + 1 + 9, qc_f cI 11 (fun _ => 0)), (q16, .inr (2, [.int 4, .int 9, .int 10, .ref (u20 0), .ref (u20 1), .ref (u20 2)])), (u20 0, qc_f cI 3 (fun _ => 0)), (u20 1, qc_f cI 3 (upd (upd (upd (fun _ => 0) 0 6) 1 6) 2 6)), (u20 2, qc_f cI 6 (upd (upd (upd (upd (upd (upd (fun _ => 0) 0 1) 1 1) 2 1) 3 1) 4 1) 5 1)), (q27, .inr (1, [.int 0, .int 0, .int 0, .ref (u31 0), .ref (u31 1), .ref (u31 2), .ref (u31 3), .ref (u31 4)])), (u31 0, qc_f cI 3 (fun _ => 0)), (u31 1, qc_f cI 3 (fun _ => 0)), (u31 2, qc_f cI 3 (fun _ => 0)), (u31 3, qc_f cZ 1024 (fun _ => 0)), (u31 4, qc_f cZ 1024 (fun _ => 0)), (q38, .inr (3, [.int 0, .int 0, .int 0, .int 0, .ref (u42 0), .ref (u42 1), .ref (u42 2)])), (u42 0, qc_f cI 6 (fun _ => 0)), (u42 1, qc_f cZ 6 (fun _ => 0)), (u42 2, qc_r cA 7 (u42 2)), ((u42 2) + 1 + 0, qc_f cI 6 (fun _ => 0)), ((u42 2) + 1 + 1, qc_f cI 6 (fun _ => 0)), ((u42 2) + 1 + 2, qc_f cI 6 (fun _ => 0)), ((u42 2) + 1 + 3, qc_f cI 6 (fun _ => 0)), ((u42 2) + 1 + 4, qc_f cI 6 (fun _ => 0)), ((u42 2) + 1 + 5, qc_f cI 6 (fun _ => 0)), ((u42 2) + 1 + 6, qc_f cI 6 (fun _ => 0))] := hD
  refine W.widen (k := 33) (n := 2273) (by omega) (by omega) ?_
  refine va_putF (D := D) (ci := 4) (v := .ref q38) (ty := .object "QuestionLadder$Sitting") (C := RX4) (T := TX4) (N := 4) hx hb hts inlX4 tyX4 tyX4_ok nmX4 hown hK hP hD hS 0 rfl rfl 3 (by decide) (hts (.fieldLink RX4 33 "QuestionLadder" "sitting" "LQuestionLadder$Sitting;") cm_27) (fun _ h9 => h9) rfl hin rfl (by decide +kernel) rfl rfl (Nat.le_of_ble_eq_true rfl) dX4_init_45 (fun H locs hP hD hS => ?_)
  have hP : va_P D vwCl [(h0, .inr (4, [.ref q5, .ref q16, .ref q27, .ref q38])), (q5, .inr (0, [.int 0, .ref (u9 0)])), (u9 0, qc_r cA 10 (u9 0)), ((u9 0) + 1 + 0, qc_f cI 11 (fun _ => 0)), ((u9 0) + 1 + 1, qc_f cI 11 (fun _ => 0)), ((u9 0) + 1 + 2, qc_f cI 11 (fun _ => 0)), ((u9 0) + 1 + 3, qc_f cI 11 (fun _ => 0)), ((u9 0) + 1 + 4, qc_f cI 11 (fun _ => 0)), ((u9 0) + 1 + 5, qc_f cI 11 (fun _ => 0)), ((u9 0) + 1 + 6, qc_f cI 11 (fun _ => 0)), ((u9 0) + 1 + 7, qc_f cI 11 (fun _ => 0)), ((u9 0) + 1 + 8, qc_f cI 11 (fun _ => 0)), ((u9 0) + 1 + 9, qc_f cI 11 (fun _ => 0)), (q16, .inr (2, [.int 4, .int 9, .int 10, .ref (u20 0), .ref (u20 1), .ref (u20 2)])), (u20 0, qc_f cI 3 (fun _ => 0)), (u20 1, qc_f cI 3 (upd (upd (upd (fun _ => 0) 0 6) 1 6) 2 6)), (u20 2, qc_f cI 6 (upd (upd (upd (upd (upd (upd (fun _ => 0) 0 1) 1 1) 2 1) 3 1) 4 1) 5 1)), (q27, .inr (1, [.int 0, .int 0, .int 0, .ref (u31 0), .ref (u31 1), .ref (u31 2), .ref (u31 3), .ref (u31 4)])), (u31 0, qc_f cI 3 (fun _ => 0)), (u31 1, qc_f cI 3 (fun _ => 0)), (u31 2, qc_f cI 3 (fun _ => 0)), (u31 3, qc_f cZ 1024 (fun _ => 0)), (u31 4, qc_f cZ 1024 (fun _ => 0)), (q38, .inr (3, [.int 0, .int 0, .int 0, .int 0, .ref (u42 0), .ref (u42 1), .ref (u42 2)])), (u42 0, qc_f cI 6 (fun _ => 0)), (u42 1, qc_f cZ 6 (fun _ => 0)), (u42 2, qc_r cA 7 (u42 2)), ((u42 2) + 1 + 0, qc_f cI 6 (fun _ => 0)), ((u42 2) + 1 + 1, qc_f cI 6 (fun _ => 0)), ((u42 2) + 1 + 2, qc_f cI 6 (fun _ => 0)), ((u42 2) + 1 + 3, qc_f cI 6 (fun _ => 0)), ((u42 2) + 1 + 4, qc_f cI 6 (fun _ => 0)), ((u42 2) + 1 + 5, qc_f cI 6 (fun _ => 0)), ((u42 2) + 1 + 6, qc_f cI 6 (fun _ => 0))] H := hP
  have hD : va_D A [(h0, .inr (4, [.ref q5, .ref q16, .ref q27, .ref q38])), (q5, .inr (0, [.int 0, .ref (u9 0)])), (u9 0, qc_r cA 10 (u9 0)), ((u9 0) + 1 + 0, qc_f cI 11 (fun _ => 0)), ((u9 0) + 1 + 1, qc_f cI 11 (fun _ => 0)), ((u9 0) + 1 + 2, qc_f cI 11 (fun _ => 0)), ((u9 0) + 1 + 3, qc_f cI 11 (fun _ => 0)), ((u9 0) + 1 + 4, qc_f cI 11 (fun _ => 0)), ((u9 0) + 1 + 5, qc_f cI 11 (fun _ => 0)), ((u9 0) + 1 + 6, qc_f cI 11 (fun _ => 0)), ((u9 0) + 1 + 7, qc_f cI 11 (fun _ => 0)), ((u9 0) + 1 + 8, qc_f cI 11 (fun _ => 0)), ((u9 0) + 1 + 9, qc_f cI 11 (fun _ => 0)), (q16, .inr (2, [.int 4, .int 9, .int 10, .ref (u20 0), .ref (u20 1), .ref (u20 2)])), (u20 0, qc_f cI 3 (fun _ => 0)), (u20 1, qc_f cI 3 (upd (upd (upd (fun _ => 0) 0 6) 1 6) 2 6)), (u20 2, qc_f cI 6 (upd (upd (upd (upd (upd (upd (fun _ => 0) 0 1) 1 1) 2 1) 3 1) 4 1) 5 1)), (q27, .inr (1, [.int 0, .int 0, .int 0, .ref (u31 0), .ref (u31 1), .ref (u31 2), .ref (u31 3), .ref (u31 4)])), (u31 0, qc_f cI 3 (fun _ => 0)), (u31 1, qc_f cI 3 (fun _ => 0)), (u31 2, qc_f cI 3 (fun _ => 0)), (u31 3, qc_f cZ 1024 (fun _ => 0)), (u31 4, qc_f cZ 1024 (fun _ => 0)), (q38, .inr (3, [.int 0, .int 0, .int 0, .int 0, .ref (u42 0), .ref (u42 1), .ref (u42 2)])), (u42 0, qc_f cI 6 (fun _ => 0)), (u42 1, qc_f cZ 6 (fun _ => 0)), (u42 2, qc_r cA 7 (u42 2)), ((u42 2) + 1 + 0, qc_f cI 6 (fun _ => 0)), ((u42 2) + 1 + 1, qc_f cI 6 (fun _ => 0)), ((u42 2) + 1 + 2, qc_f cI 6 (fun _ => 0)), ((u42 2) + 1 + 3, qc_f cI 6 (fun _ => 0)), ((u42 2) + 1 + 4, qc_f cI 6 (fun _ => 0)), ((u42 2) + 1 + 5, qc_f cI 6 (fun _ => 0)), ((u42 2) + 1 + 6, qc_f cI 6 (fun _ => 0))] := hD
  exact W.vret hx hb hr (fun t ht hW => ⟨⟨fun i => ([q5, u9 0, q16, u20 0, u20 1, u20 2, q27, u31 0, u31 1, u31 2, u31 3, u31 4, q38, u42 0, u42 1, u42 2] : List Nat).getD i 0, rfl, trivial, by rw [ht]; exact hP, hD⟩, hS.F ht⟩) hS.2.2 dX4_init_48
