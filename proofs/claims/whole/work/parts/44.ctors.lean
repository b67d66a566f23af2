/-! The constructors (by program: wip/whole/c44.py) -/
abbrev qc_f (cT : ClassId) (n : Nat) (f : Nat → Int32) : va_E := .inl (cT, n, .inl f)
abbrev qc_r (cA : ClassId) (n q : Nat) : va_E := .inl (cA, n, .inr (.inr (.inr (.inr (fun j => some (q + 1 + j))))))
set_option maxRecDepth 100000 in
theorem cm_30 : Cond.methodLink RX0 3 objectInit ∈ wsL_law := List.mem_of_getElem? (i := 30) rfl
set_option maxRecDepth 100000 in
theorem cm_10 : Cond.instanceMethod objectInit ∈ wsL_law := List.mem_of_getElem? (i := 10) rfl
set_option maxRecDepth 100000 in
theorem cm_11 : Cond.code objectInit ⟨#[0xb1]⟩ 1 none ∈ wsL_law := List.mem_of_getElem? (i := 11) rfl
set_option maxRecDepth 100000 in
theorem cm_31 : Cond.classLink RX0 9 "[[I" ∈ wsL_law := List.mem_of_getElem? (i := 31) rfl
set_option maxRecDepth 100000 in
theorem cm_33 : Cond.fieldLink RX0 11 "QuestionLadder$Bank" "facts" "[[I" ∈ wsL_law := List.mem_of_getElem? (i := 33) rfl
theorem dX0_init_0 : decode cX0_init 0 = .ok (.aload_n 0, 1) := by decide +kernel
theorem dX0_init_1 : decode cX0_init 1 = .ok (.invokespecial 3, 3) := by decide +kernel
theorem dX0_init_4 : decode cX0_init 4 = .ok (.aload_n 0, 1) := by decide +kernel
theorem dX0_init_5 : decode cX0_init 5 = .ok (.bipush 10, 2) := by decide +kernel
theorem dX0_init_7 : decode cX0_init 7 = .ok (.bipush 11, 2) := by decide +kernel
theorem dX0_init_9 : decode cX0_init 9 = .ok (.multianewarray 9 2, 4) := by decide +kernel
theorem dX0_init_13 : decode cX0_init 13 = .ok (.putfield 11, 3) := by decide +kernel
theorem dX0_init_16 : decode cX0_init 16 = .ok (.return_, 1) := by decide +kernel
def qw_X0 (cI cZ cA : ClassId) (h : Nat) (a : Nat → Nat) : va_W := [(h, .inr (0, [.int 0, .ref (a 0)])), (a 0, qc_r cA 10 (a 0)), ((a 0) + 1 + 0, qc_f cI 11 (fun _ => 0)), ((a 0) + 1 + 1, qc_f cI 11 (fun _ => 0)), ((a 0) + 1 + 2, qc_f cI 11 (fun _ => 0)), ((a 0) + 1 + 3, qc_f cI 11 (fun _ => 0)), ((a 0) + 1 + 4, qc_f cI 11 (fun _ => 0)), ((a 0) + 1 + 5, qc_f cI 11 (fun _ => 0)), ((a 0) + 1 + 6, qc_f cI 11 (fun _ => 0)), ((a 0) + 1 + 7, qc_f cI 11 (fun _ => 0)), ((a 0) + 1 + 8, qc_f cI 11 (fun _ => 0)), ((a 0) + 1 + 9, qc_f cI 11 (fun _ => 0))]
set_option maxHeartbeats 4000000 in
set_option maxRecDepth 100000 in
theorem cb_X0 (l : Launch) (D : va_G) (cI cZ cA : ClassId) (h0 sz : Nat) : Met l yX0_init (.code yX0_init cX0_init 1 none :: wsL_law) ({ frames := 1, cells := 11, slots := 120, locals := 40 }) (va_Pc [.ref h0] (qb_Pc D cI cZ cA [(h0, .inr (0, [.int 0, .null]))] sz)) (va_Qv (fun _ : Nat → Nat => True) (fun a t => va_P D vwCl (qw_X0 cI cZ cA h0 a) t.heap ∧ va_D (va_A [(h0, .inr (0, [.int 0, .null]))] sz) (qw_X0 cI cZ cA h0 a)) (va_A [(h0, .inr (0, [.int 0, .null]))] sz)) 11 120 (va_A [(h0, .inr (0, [.int 0, .null]))] sz) := by
  refine Met.ofW (cc := cX0_init) (maxL := 1) (ret := none) (by decide) rfl ?_
  intro p e s m args below meth c s₁ B hml hv
  obtain ⟨rfl, hsz, hP, hK, hD0, hAA, hBW⟩ := hv
  have hx := B.exec
  have hb := B.bytes
  have hr := B.returns
  have hts0 := atoms_spec (ws := .code yX0_init cX0_init 1 none :: wsL_law) B.pre
  have hts : ∀ w ∈ wsL_law, w.before ([Value.ref h0] : List Value).toArray s = true := fun w hw => hts0 w (List.mem_cons_of_mem _ hw)
  have hown : s.vm.findClass RX0 = some m.cls := findClass_of_methodNamed B.named
  have hlocks := B.notSynchronized
  have hin : meth.name = "<init>" := (name_of_methodNamed B.named B.method).1
  subst hsz
  have hD := hD0.self (sz := s.heap.size)
  generalize hAe : va_A [(h0, .inr (0, [.int 0, .null]))] s.heap.size = A at hD ⊢
  have hA : ∀ q : Nat, s.heap.size ≤ q → A q := fun q h => by rw [← hAe]; exact Or.inr h
  have hS : va_S A s.heap s.heap [] := va_S.rf
  have hP : va_P D vwCl [(h0, .inr (0, [.int 0, .null]))] s.heap := hP
  have hl := lv_entry ([.ref h0]) (n := 1) (Nat.le_of_ble_eq_true rfl)
  rw [lg_entry_eq]
  generalize (lg_sl ([.ref h0]) ++ List.replicate (1 - (lg_sl ([.ref h0])).length) Slot.unset).toArray = ls at hl ⊢
  have hl : lv_has ls 1 [(0, .ref h0)] := hl
  refine lv_aload_n hx hb dX0_init_0 rfl (lv_at hl 0 rfl) ?_
  refine W.objInit hx hb hown (hts (.methodLink RX0 3 objectInit) cm_30) (hts (.instanceMethod objectInit) cm_10) (hts (.code objectInit ⟨#[0xb1]⟩ 1 none) cm_11) rfl (by rw [hml]; exact hl.1) rfl dX0_init_1 (Nat.le_of_ble_eq_true rfl) (Nat.le_of_ble_eq_true rfl) ?_
  refine W.eq (g2 := F0 m 4 ls []) rfl ?_
  refine lv_aload_n hx hb dX0_init_4 rfl (lv_at hl 0 rfl) ?_
  refine lv_bipush (v := 10) hx hb dX0_init_5 (by decide) ?_
  refine lv_bipush (v := 11) hx hb dX0_init_7 (by decide) ?_
  refine qb_grid (N := 10) (M := 11) (cA := cA) (cI := cI) hx hb hown (hts (.classLink RX0 9 "[[I") cm_31) hAA (by decide) (by decide) (Nat.le_of_ble_eq_true rfl) (Nat.le_of_ble_eq_true rfl) hP hD hS hA rfl rfl dX0_init_9 (fun q9 H locs hP hD hS => ?_)
  have hP : va_P D vwCl [(h0, .inr (0, [.int 0, .null])), (q9, qc_r cA 10 (q9)), (q9 + 1 + 0, qc_f cI 11 (fun _ => 0)), (q9 + 1 + 1, qc_f cI 11 (fun _ => 0)), (q9 + 1 + 2, qc_f cI 11 (fun _ => 0)), (q9 + 1 + 3, qc_f cI 11 (fun _ => 0)), (q9 + 1 + 4, qc_f cI 11 (fun _ => 0)), (q9 + 1 + 5, qc_f cI 11 (fun _ => 0)), (q9 + 1 + 6, qc_f cI 11 (fun _ => 0)), (q9 + 1 + 7, qc_f cI 11 (fun _ => 0)), (q9 + 1 + 8, qc_f cI 11 (fun _ => 0)), (q9 + 1 + 9, qc_f cI 11 (fun _ => 0))] H := hP
  have hD : va_D A [(h0, .inr (0, [.int 0, .null])), (q9, qc_r cA 10 (q9)), (q9 + 1 + 0, qc_f cI 11 (fun _ => 0)), (q9 + 1 + 1, qc_f cI 11 (fun _ => 0)), (q9 + 1 + 2, qc_f cI 11 (fun _ => 0)), (q9 + 1 + 3, qc_f cI 11 (fun _ => 0)), (q9 + 1 + 4, qc_f cI 11 (fun _ => 0)), (q9 + 1 + 5, qc_f cI 11 (fun _ => 0)), (q9 + 1 + 6, qc_f cI 11 (fun _ => 0)), (q9 + 1 + 7, qc_f cI 11 (fun _ => 0)), (q9 + 1 + 8, qc_f cI 11 (fun _ => 0)), (q9 + 1 + 9, qc_f cI 11 (fun _ => 0))] := hD
  refine W.widen (k := 11) (n := 120) (by omega) (by omega) ?_
  refine va_putF (D := D) (ci := 0) (v := .ref q9) (ty := .array (.array .int)) (C := RX0) (T := TX0) (N := 2) hx hb hts inlX0 tyX0 tyX0_ok nmX0 hown hK hP hD hS 0 rfl rfl 1 (by decide) (hts (.fieldLink RX0 11 "QuestionLadder$Bank" "facts" "[[I") cm_33) (fun _ h9 => h9) rfl hin rfl (by decide +kernel) rfl rfl (Nat.le_of_ble_eq_true rfl) dX0_init_13 (fun H locs hP hD hS => ?_)
  have hP : va_P D vwCl [(h0, .inr (0, [.int 0, .ref q9])), (q9, qc_r cA 10 (q9)), (q9 + 1 + 0, qc_f cI 11 (fun _ => 0)), (q9 + 1 + 1, qc_f cI 11 (fun _ => 0)), (q9 + 1 + 2, qc_f cI 11 (fun _ => 0)), (q9 + 1 + 3, qc_f cI 11 (fun _ => 0)), (q9 + 1 + 4, qc_f cI 11 (fun _ => 0)), (q9 + 1 + 5, qc_f cI 11 (fun _ => 0)), (q9 + 1 + 6, qc_f cI 11 (fun _ => 0)), (q9 + 1 + 7, qc_f cI 11 (fun _ => 0)), (q9 + 1 + 8, qc_f cI 11 (fun _ => 0)), (q9 + 1 + 9, qc_f cI 11 (fun _ => 0))] H := hP
  have hD : va_D A [(h0, .inr (0, [.int 0, .ref q9])), (q9, qc_r cA 10 (q9)), (q9 + 1 + 0, qc_f cI 11 (fun _ => 0)), (q9 + 1 + 1, qc_f cI 11 (fun _ => 0)), (q9 + 1 + 2, qc_f cI 11 (fun _ => 0)), (q9 + 1 + 3, qc_f cI 11 (fun _ => 0)), (q9 + 1 + 4, qc_f cI 11 (fun _ => 0)), (q9 + 1 + 5, qc_f cI 11 (fun _ => 0)), (q9 + 1 + 6, qc_f cI 11 (fun _ => 0)), (q9 + 1 + 7, qc_f cI 11 (fun _ => 0)), (q9 + 1 + 8, qc_f cI 11 (fun _ => 0)), (q9 + 1 + 9, qc_f cI 11 (fun _ => 0))] := hD
  exact W.vret hx hb hr (fun t ht hW => ⟨⟨fun i => ([q9] : List Nat).getD i 0, rfl, trivial, by rw [ht]; exact hP, hD⟩, hS.F ht⟩) hS.2.2 dX0_init_16
