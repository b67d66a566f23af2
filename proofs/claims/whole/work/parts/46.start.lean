/-! The law from its entry; the claim (by program: wip/whole/c46.py; the skeleton of kit/laws stands around it). -/
theorem ct_RX0_16 : Cond.methodLinkNest RX0 16 yX4_isWithin "QuestionLadder" ∈ lw_tbl := List.mem_append_right _ (List.mem_of_getElem? (i := 158) (by decide +kernel))
theorem ct_RX1_51 : Cond.methodLinkNest RX1 51 yX4_isWithin "QuestionLadder" ∈ lw_tbl := List.mem_append_right _ (List.mem_of_getElem? (i := 237) (by decide +kernel))
theorem ct_RX1_44 : Cond.methodLinkNest RX1 44 yX4_asNumber "QuestionLadder" ∈ lw_tbl := List.mem_append_right _ (List.mem_of_getElem? (i := 256) (by decide +kernel))
theorem ct_RX1_72 : Cond.methodLinkNest RX1 72 yX4_isIn "QuestionLadder" ∈ lw_tbl := List.mem_append_right _ (List.mem_of_getElem? (i := 271) (by decide +kernel))
theorem ct_RX3_50 : Cond.methodLinkNest RX3 50 yX4_isWithin "QuestionLadder" ∈ lw_tbl := List.mem_append_right _ (List.mem_of_getElem? (i := 318) (by decide +kernel))
theorem ct_RX2_31 : Cond.methodLinkNest RX2 31 yX4_likeliestStep "QuestionLadder" ∈ lw_tbl := List.mem_append_right _ (List.mem_of_getElem? (i := 323) (by decide +kernel))
theorem ct_RX2_35 : Cond.methodLinkNest RX2 35 yX4_sumOf "QuestionLadder" ∈ lw_tbl := List.mem_append_right _ (List.mem_of_getElem? (i := 326) (by decide +kernel))
theorem ct_RX3_59 : Cond.methodLinkNest RX3 59 yX4_factor "QuestionLadder" ∈ lw_tbl := List.mem_append_right _ (List.mem_of_getElem? (i := 374) (by decide +kernel))
theorem ct_RX4_11 : Cond.methodLinkNest RX4 11 yX0_init "QuestionLadder" ∈ lw_tbl := List.mem_append_right _ (List.mem_of_getElem? (i := 21) (by decide +kernel))
theorem ct_RX4_25 : Cond.methodLinkNest RX4 25 yX1_init "QuestionLadder" ∈ lw_tbl := List.mem_append_right _ (List.mem_of_getElem? (i := 74) (by decide +kernel))
theorem ct_RX4_32 : Cond.methodLinkNest RX4 32 yX3_init "QuestionLadder" ∈ lw_tbl := List.mem_append_right _ (List.mem_of_getElem? (i := 106) (by decide +kernel))
theorem ct_over : Cond.arrayOver (.array .int) ∈ lw_tbl := List.mem_append_right _ (List.mem_of_getElem? (i := 26) (by decide +kernel))
theorem cs_NW {s : State} {args : Array Value} (hts : ∀ w ∈ lw_tbl, w.before args s = true) : q_NW s := List.forall_mem_cons.mpr ⟨va_Nw.of rfl (hts _ ct_RX0_16), List.forall_mem_cons.mpr ⟨va_Nw.of rfl (hts _ ct_RX1_51), List.forall_mem_cons.mpr ⟨va_Nw.of rfl (hts _ ct_RX1_44), List.forall_mem_cons.mpr ⟨va_Nw.of rfl (hts _ ct_RX1_72), List.forall_mem_cons.mpr ⟨va_Nw.of rfl (hts _ ct_RX3_50), List.forall_mem_cons.mpr ⟨va_Nw.of rfl (hts _ ct_RX2_31), List.forall_mem_cons.mpr ⟨va_Nw.of rfl (hts _ ct_RX2_35), List.forall_mem_cons.mpr ⟨va_Nw.of rfl (hts _ ct_RX3_59), fun _ h => absurd h List.not_mem_nil⟩⟩⟩⟩⟩⟩⟩⟩
theorem cs_BW {s : State} {args : Array Value} (hts : ∀ w ∈ lw_tbl, w.before args s = true) : qb_NW s := List.forall_mem_cons.mpr ⟨va_Nw.of rfl (hts _ ct_RX4_11), List.forall_mem_cons.mpr ⟨va_Nw.of rfl (hts _ ct_RX4_25), List.forall_mem_cons.mpr ⟨va_Nw.of rfl (hts _ ct_RX4_32), fun _ h => absurd h List.not_mem_nil⟩⟩⟩
theorem cs_over {args : Array Value} {s : State} (h : (Cond.arrayOver (.array .int)).before args s = true) : ∃ comp c k, s.vm.findClass (FieldType.array .int).toString = some comp ∧ s.vm.classes[c]? = some k ∧ k.kind = .array comp (.array .int) ∧ s.vm.findClass ("[" ++ (FieldType.array .int).toString) = some c := by
  simp only [Cond.before, Cond.holds, Cond.value, beq_iff_eq] at h
  cases hc : s.vm.findClass (FieldType.array .int).toString with
  | none => simp [hc] at h
  | some comp =>
    simp only [hc, Option.bind_some, Option.bind_eq_some_iff, Option.map_eq_some_iff] at h
    obtain ⟨c, hi, k, hk, hb⟩ := h
    obtain ⟨hlt, hp, -⟩ := Array.findIdx?_eq_some_iff_getElem.mp hi
    rw [(Array.getElem?_eq_some_iff.mp hk).2] at hp
    cases hkind : k.kind with
    | array component ty =>
      rw [hkind] at hb hp
      simp at hb hp
      exact ⟨comp, c, k, rfl, hk, by rw [hkind, hp, hb.1], hb.2⟩
    | _ => rw [hkind] at hb; simp at hb
/-- the array classes, as the tables have them -/
theorem cs_arr {args : Array Value} {s : State} (h1 : (Cond.arrayClass .int).before args s = true) (h2 : (Cond.arrayClass .boolean).before args s = true) (h3 : (Cond.arrayOver (.array .int)).before args s = true) : ∃ cI cZ cA, (∀ (k : Nat) (q : ClassId × FieldType), (qb_Y cI cZ cA)[k]? = some q → ArrOfT s q.1 q.2 ∧ va_RA s q.1 q.2) ∧ qg_AA cA cI s := by
  obtain ⟨cI, kI, xI, a1, a2, a3⟩ := Cond.arrayClass_spec h1
  obtain ⟨cZ, kZ, xZ, b1, b2, b3⟩ := Cond.arrayClass_spec h2
  obtain ⟨comp, cA, kA, d1, d2, d3, d4⟩ := cs_over h3
  have e : comp = cI := Option.some.inj (d1.symm.trans a1)
  subst e
  refine ⟨comp, cZ, cA, fun k q hq => ?_, kA, kI, xI, d2, d3, a2, a3, d4⟩
  match k, hq with
  | 0, hq => cases hq; exact ⟨fun n z => ⟨fun k h => (by cases h), kI, a2, xI, a3⟩, a1⟩
  | 1, hq => cases hq; exact ⟨fun n z => ⟨fun k h => (by cases h), kZ, b2, xZ, b3⟩, b1⟩
  | 2, hq => cases hq; exact ⟨fun n z => ⟨fun k h => (by cases h), kA, d2, comp, d3⟩, d4⟩
  | k + 3, hq => cases hq
set_option maxRecDepth 100000 in
theorem cm_0 : Cond.classLink RL 7 RX4 ∈ wsL_law := List.mem_of_getElem? (i := 0) rfl
set_option maxRecDepth 100000 in
theorem cm_1 : Cond.instantiable RX4 4 ∈ wsL_law := List.mem_of_getElem? (i := 1) rfl
set_option maxRecDepth 100000 in
theorem cm_2 : Cond.initialized RX4 ∈ wsL_law := List.mem_of_getElem? (i := 2) rfl
set_option maxRecDepth 100000 in
theorem cm_8 : Cond.code yX4_init cX4_init 1 none ∈ wsL_law := List.mem_of_getElem? (i := 8) rfl
set_option maxRecDepth 100000 in
theorem cm_6 : Cond.methodLink RL 9 yX4_init ∈ wsL_law := List.mem_of_getElem? (i := 6) rfl
set_option maxRecDepth 100000 in
theorem cm_7 : Cond.instanceMethod yX4_init ∈ wsL_law := List.mem_of_getElem? (i := 7) rfl
set_option maxRecDepth 100000 in
theorem cm_3 : Cond.classLink RL 10 RX5 ∈ wsL_law := List.mem_of_getElem? (i := 3) rfl
set_option maxRecDepth 100000 in
theorem cm_4 : Cond.instantiable RX5 23 ∈ wsL_law := List.mem_of_getElem? (i := 4) rfl
set_option maxRecDepth 100000 in
theorem cm_5 : Cond.initialized RX5 ∈ wsL_law := List.mem_of_getElem? (i := 5) rfl
set_option maxRecDepth 100000 in
theorem cm_62 : Cond.code yX5_init cX5_init 1 none ∈ wsL_law := List.mem_of_getElem? (i := 62) rfl
set_option maxRecDepth 100000 in
theorem cm_60 : Cond.methodLink RL 12 yX5_init ∈ wsL_law := List.mem_of_getElem? (i := 60) rfl
set_option maxRecDepth 100000 in
theorem cm_61 : Cond.instanceMethod yX5_init ∈ wsL_law := List.mem_of_getElem? (i := 61) rfl
theorem dL_law_0 : decode code 0 = .ok (.new 7, 3) := by decide +kernel
theorem dL_law_3 : decode code 3 = .ok (.dup, 1) := by decide +kernel
theorem dL_law_4 : decode code 4 = .ok (.invokespecial 9, 3) := by decide +kernel
theorem dL_law_7 : decode code 7 = .ok (.astore_n 1, 1) := by decide +kernel
theorem dL_law_8 : decode code 8 = .ok (.new 10, 3) := by decide +kernel
theorem dL_law_11 : decode code 11 = .ok (.dup, 1) := by decide +kernel
theorem dL_law_12 : decode code 12 = .ok (.invokespecial 12, 3) := by decide +kernel
theorem dL_law_15 : decode code 15 = .ok (.astore_n 2, 1) := by decide +kernel
theorem dL_law_16 : decode code 16 = .ok (.iconst 0, 1) := by decide +kernel
theorem dL_law_17 : decode code 17 = .ok (.istore_n 3, 1) := by decide +kernel
def R_law : String := "QuestionLadderLaw"
def lw_P (b : Addr) (xs : List Int32) (args : Array Value) (s : State) : Prop := args = #[.ref b] ∧ s.IntsAt b xs ∧ xs.length ≤ 3072 ∧ (Jvm.Cond.and given_1 narrow_1).before args s = true
def lw_Q (_ : Array Value) (s : State) (o : Outcome) (t : State) : Prop := o = .returned (some (.int 1)) ∧ Framed s o t [] 600000 7302249
def lw_Z (below : List Frame) (a : Array Value) (s : State) : State → Prop := fun t => ∃ o, t.status = .running ∧ Ended t below o ∧ lw_Q a s o t
/-- the law's own end, with 1 on the stack, nothing written that was there before, its room as the claim has it -/
theorem lw_ret {p : Program} {l : Launch} {e : Env} {s : State} {m : MethodId} {below : List Frame} {meth : Method} {c : Code} {b : Nat} (hx : p.tables.exec = Jvm.exec) (hb : c.code = code) (hr : meth.sig.returnType = ret) (hlocks : meth.locks = false) {pc : Nat} {H : Heap} {ls : Array Slot} (hdg : decode code pc = .ok (.ireturn, 1)) : W p l e room_1 s m #[Value.ref b] below meth c H [] 600000 7302249 (lw_Z below #[Value.ref b] s) (F0 m pc ls [.int 1]) := by
  intro T hT X
  obtain ⟨fs, hret, hrun, hended, hW, hframe⟩ := X.leave (v := some (.int 1)) (hlocks := hlocks) (fun h => by rw [hr] at h; cases h)
  have hmeth' : T.vm.method? m = some meth := X.method'
  refine ⟨T.setFrames fs, ?_, .returned (some (.int 1)), hrun, hended, rfl, ⟨_, rfl⟩, hW, hframe⟩
  jvm_step X.here [X.here.top, hx, hb, hdg, hmeth', hr, ret, narrow_b1]
  (try refine ⟨rfl, ?_⟩); (try refine ⟨rfl, ?_⟩)
  first | (intro acts; rw [hret _ acts rfl rfl rfl]) | rw [hret _ _ rfl rfl rfl]
  exact Steps.refl _
/-- what holds at the law's entry: the machine, the code, the tables' words (any of lw_tbl by 'hts w (by decide +kernel)'), the script of L ints xs at the cell b, what the Statement gives of the start (any of its parts by flat_of_before) -/
def lw_At (p : Program) (s : State) (m : MethodId) (meth : Method) (c : Code) (b L : Nat) (xs : Nat → Int32) : Prop :=
  p.tables.exec = Jvm.exec ∧ c.code = code ∧ meth.sig.returnType = ret ∧ c.maxLocals = 4 ∧ s.vm.findClass R_law = some m.cls ∧ (∀ w ∈ lw_tbl, w.before #[Value.ref b] s = true) ∧ va_X b L xs s s.heap ∧ b < s.heap.size ∧ meth.locks = false ∧ (Jvm.Cond.and given_1 narrow_1).before #[Value.ref b] s = true
set_option maxHeartbeats 4000000 in
set_option maxRecDepth 100000 in
/-- the law, from its entry -/
theorem whole_start {p : Program} {e : Env} {s : State} {m : MethodId} {below : List Frame} {meth : Method} {c : Code} (l : Launch) (hflags : l.flags = flags0) {b L : Nat} {xs : Nat → Int32} (hL : L ≤ 3072) (C0 : lw_At p s m meth c b L xs) : W p l e room_1 s m #[Value.ref b] below meth c s.heap [] 0 0 (lw_Z below #[Value.ref b] s) (entryFrame m ([Value.ref b] : List Value).toArray 4) := by
  obtain ⟨hx, hb, hr, hml, hown, hts0, hX, hbl, hlocks, hgv⟩ := id C0
  have hts : ∀ w ∈ wsL_law, w.before #[Value.ref b] s = true := fun w hw => hts0 w (wsL_law_in w hw)
  have hA : ∀ q : Nat, s.heap.size ≤ q → (fun q : Nat => s.heap.size ≤ q) q := fun _ h => h
  have hbA : ¬ (fun q : Nat => s.heap.size ≤ q) b := Nat.not_le.mpr hbl
  obtain ⟨c0, i0, hK0⟩ := u_known (C := RX0) (T := TX0) (N := 2) (n := 2) hts inlX0 (hts (.instantiable RX0 2) cm_13)
  obtain ⟨c1, i1, hK1⟩ := u_known (C := RX1) (T := TX1) (N := 8) (n := 8) hts inlX1 (hts (.instantiable RX1 8) cm_21)
  obtain ⟨c2, i2, hK2⟩ := u_known (C := RX2) (T := TX2) (N := 6) (n := 6) hts inlX2 (hts (.instantiable RX2 6) cm_17)
  obtain ⟨c3, i3, hK3⟩ := u_known (C := RX3) (T := TX3) (N := 7) (n := 7) hts inlX3 (hts (.instantiable RX3 7) cm_25)
  obtain ⟨c4, i4, hK4⟩ := u_known (C := RX4) (T := TX4) (N := 4) (n := 4) hts inlX4 (hts (.instantiable RX4 4) cm_1)
  obtain ⟨c5, i5, hK5⟩ := u_known (C := RX5) (T := TX5) (N := 23) (n := 23) hts inlX5 (hts (.instantiable RX5 23) cm_4)
  obtain ⟨cI, cZ, cA, hKt, hAA⟩ := cs_arr (hts (.arrayClass .int) cm_32) (hts (.arrayClass .boolean) cm_50) (hts0 _ ct_over)
  obtain ⟨D, hKc⟩ : ∃ D : va_G, ∀ (k : Nat) (q : vw_C), vwCl[k]? = some q → u_Kn s q.1 q.2.1 q.2.2 (D.1 k) (D.2 k) := by
    refine ⟨(fun k => if k = 0 then c0 else if k = 1 then c1 else if k = 2 then c2 else if k = 3 then c3 else if k = 4 then c4 else c5, fun k => if k = 0 then i0 else if k = 1 then i1 else if k = 2 then i2 else if k = 3 then i3 else if k = 4 then i4 else i5), ?_⟩
    intro k q hq
    match k, hq with
    | 0, hq => cases hq; exact hK0
    | 1, hq => cases hq; exact hK1
    | 2, hq => cases hq; exact hK2
    | 3, hq => cases hq; exact hK3
    | 4, hq => cases hq; exact hK4
    | 5, hq => cases hq; exact hK5
    | k + 6, hq => simp [vwCl] at hq
  have hK : va_K D vwCl (qb_Y cI cZ cA) s := ⟨hKc, hKt⟩
  have hBW := cs_BW hts0
  have hNW := cs_NW hts0
  have hS : va_S (fun q : Nat => s.heap.size ≤ q) s.heap s.heap [] := va_S.rf
  have hP : va_P D vwCl [] s.heap := fun k q h => by simp at h
  have hD : va_D (fun q : Nat => s.heap.size ≤ q) [] := ⟨fun i j p q h => by simp at h, fun k q h => by simp at h⟩
  have hl := lv_entry ([.ref b]) (n := 4) (Nat.le_of_ble_eq_true rfl)
  rw [lg_entry_eq]
  generalize (lg_sl ([.ref b]) ++ List.replicate (4 - (lg_sl ([.ref b])).length) Slot.unset).toArray = ls at hl ⊢
  have hl : lv_has ls 4 [(0, .ref b)] := hl
  refine va_new (ci := 4) (fs := [.null, .null, .null, .null]) (C := RX4) (T := TX4) (N := 4) hx hb hts inlX4 tyX4 tyX4_ok hown (hts (.classLink RL 7 RX4) cm_0) (hts (.instantiable RX4 4) cm_1) (hts (.initialized RX4) cm_2) hK hP hD hS hA rfl (fun j hj => by rcases (show j = 0 ∨ j = 1 ∨ j = 2 ∨ j = 3 by omega) with rfl | rfl | rfl | rfl <;> rfl) (Nat.le_of_ble_eq_true rfl) (Nat.le_of_ble_eq_true rfl) dL_law_0 (fun q0 H hP hD hS => ?_)
  have hP : va_P D vwCl [(q0, .inr (4, [.null, .null, .null, .null]))] H := hP
  have hD : va_D (fun q : Nat => s.heap.size ≤ q) [(q0, .inr (4, [.null, .null, .null, .null]))] := hD
  refine W.widen (k := 1) (n := 4) (by omega) (by omega) ?_
  refine lv_dup hx hb dL_law_3 rfl ?_
  have hPc := hP.sub (ws' := [(q0, .inr (4, [.null, .null, .null, .null]))]) [0] rfl
  have hDc := hD.sub (ws' := [(q0, .inr (4, [.null, .null, .null, .null]))]) [0] (by decide) rfl
  have hFc := va_free (wc := [(q0, .inr (4, [.null, .null, .null, .null]))]) hD hS hA [0] rfl
  refine va_callv (va_runI (As := []) (rest := [.ref q0]) ⟨hx, hb, hml, hown, hts⟩ (cb_X4 l D cI cZ cA q0 H.size) (cwI 0 hts (q_goodC cm_8 rfl q_goodB) rfl rfl rfl (hts (.initialized RX4) cm_2) (hts (.methodLink RL 9 yX4_init) cm_6) (hts (.instanceMethod yX4_init) cm_7) rfl (by decide +kernel) ⟨(Nat.le_of_ble_eq_true rfl), (Nat.le_of_ble_eq_true rfl)⟩) ⟨qb_blind, fun U hU hW => ⟨rfl, by rw [hU], by rw [hU]; exact hPc, va_K.moved hW.alike hK, hDc.weaken (fun _ _ _ _ => trivial), hAA.moved hW.alike, qb_NW.warm hW hBW⟩⟩ rfl rfl hl.1 rfl (lv_room (Nat.le_of_ble_eq_true rfl)) dL_law_4 ⟨(Nat.le_of_ble_eq_true rfl), (Nat.le_of_ble_eq_true rfl)⟩) hS (fun q _ h => hFc q h) hFc (fun u4 t H1 locs ht hvm hw hB hz1 hk1 hS => ?_)
  obtain ⟨hP1, hD1⟩ := hB
  rw [ht] at hP1
  obtain ⟨hP, hD⟩ := va_join (wr := []) (w1 := qw_X4 cI cZ cA q0 u4) hP hD [0] [] rfl rfl (by decide) (by decide) hk1 hFc hP1 hD1
  generalize H1 = H at hP hS ⊢
  have hP : va_P D vwCl [(q0, .inr (4, [.ref (u4 0), .ref (u4 2), .ref (u4 6), .ref (u4 12)])), (u4 0, .inr (0, [.int 0, .ref ((u4 1))])), (u4 1, qc_r cA 10 (u4 1)), (((u4 1)) + 1 + 0, qc_f cI 11 (fun _ => 0)), (((u4 1)) + 1 + 1, qc_f cI 11 (fun _ => 0)), (((u4 1)) + 1 + 2, qc_f cI 11 (fun _ => 0)), (((u4 1)) + 1 + 3, qc_f cI 11 (fun _ => 0)), (((u4 1)) + 1 + 4, qc_f cI 11 (fun _ => 0)), (((u4 1)) + 1 + 5, qc_f cI 11 (fun _ => 0)), (((u4 1)) + 1 + 6, qc_f cI 11 (fun _ => 0)), (((u4 1)) + 1 + 7, qc_f cI 11 (fun _ => 0)), (((u4 1)) + 1 + 8, qc_f cI 11 (fun _ => 0)), (((u4 1)) + 1 + 9, qc_f cI 11 (fun _ => 0)), (u4 2, .inr (2, [.int 4, .int 9, .int 10, .ref ((u4 3)), .ref ((u4 4)), .ref ((u4 5))])), (u4 3, qc_f cI 3 (fun _ => 0)), (u4 4, qc_f cI 3 (upd (upd (upd (fun _ => 0) 0 6) 1 6) 2 6)), (u4 5, qc_f cI 6 (upd (upd (upd (upd (upd (upd (fun _ => 0) 0 1) 1 1) 2 1) 3 1) 4 1) 5 1)), (u4 6, .inr (1, [.int 0, .int 0, .int 0, .ref ((u4 7)), .ref ((u4 8)), .ref ((u4 9)), .ref ((u4 10)), .ref ((u4 11))])), (u4 7, qc_f cI 3 (fun _ => 0)), (u4 8, qc_f cI 3 (fun _ => 0)), (u4 9, qc_f cI 3 (fun _ => 0)), (u4 10, qc_f cZ 1024 (fun _ => 0)), (u4 11, qc_f cZ 1024 (fun _ => 0)), (u4 12, .inr (3, [.int 0, .int 0, .int 0, .int 0, .ref ((u4 13)), .ref ((u4 14)), .ref ((u4 15))])), (u4 13, qc_f cI 6 (fun _ => 0)), (u4 14, qc_f cZ 6 (fun _ => 0)), (u4 15, qc_r cA 7 (u4 15)), (((u4 15)) + 1 + 0, qc_f cI 6 (fun _ => 0)), (((u4 15)) + 1 + 1, qc_f cI 6 (fun _ => 0)), (((u4 15)) + 1 + 2, qc_f cI 6 (fun _ => 0)), (((u4 15)) + 1 + 3, qc_f cI 6 (fun _ => 0)), (((u4 15)) + 1 + 4, qc_f cI 6 (fun _ => 0)), (((u4 15)) + 1 + 5, qc_f cI 6 (fun _ => 0)), (((u4 15)) + 1 + 6, qc_f cI 6 (fun _ => 0))] H := hP
  have hD : va_D (fun q : Nat => s.heap.size ≤ q) [(q0, .inr (4, [.ref (u4 0), .ref (u4 2), .ref (u4 6), .ref (u4 12)])), (u4 0, .inr (0, [.int 0, .ref ((u4 1))])), (u4 1, qc_r cA 10 (u4 1)), (((u4 1)) + 1 + 0, qc_f cI 11 (fun _ => 0)), (((u4 1)) + 1 + 1, qc_f cI 11 (fun _ => 0)), (((u4 1)) + 1 + 2, qc_f cI 11 (fun _ => 0)), (((u4 1)) + 1 + 3, qc_f cI 11 (fun _ => 0)), (((u4 1)) + 1 + 4, qc_f cI 11 (fun _ => 0)), (((u4 1)) + 1 + 5, qc_f cI 11 (fun _ => 0)), (((u4 1)) + 1 + 6, qc_f cI 11 (fun _ => 0)), (((u4 1)) + 1 + 7, qc_f cI 11 (fun _ => 0)), (((u4 1)) + 1 + 8, qc_f cI 11 (fun _ => 0)), (((u4 1)) + 1 + 9, qc_f cI 11 (fun _ => 0)), (u4 2, .inr (2, [.int 4, .int 9, .int 10, .ref ((u4 3)), .ref ((u4 4)), .ref ((u4 5))])), (u4 3, qc_f cI 3 (fun _ => 0)), (u4 4, qc_f cI 3 (upd (upd (upd (fun _ => 0) 0 6) 1 6) 2 6)), (u4 5, qc_f cI 6 (upd (upd (upd (upd (upd (upd (fun _ => 0) 0 1) 1 1) 2 1) 3 1) 4 1) 5 1)), (u4 6, .inr (1, [.int 0, .int 0, .int 0, .ref ((u4 7)), .ref ((u4 8)), .ref ((u4 9)), .ref ((u4 10)), .ref ((u4 11))])), (u4 7, qc_f cI 3 (fun _ => 0)), (u4 8, qc_f cI 3 (fun _ => 0)), (u4 9, qc_f cI 3 (fun _ => 0)), (u4 10, qc_f cZ 1024 (fun _ => 0)), (u4 11, qc_f cZ 1024 (fun _ => 0)), (u4 12, .inr (3, [.int 0, .int 0, .int 0, .int 0, .ref ((u4 13)), .ref ((u4 14)), .ref ((u4 15))])), (u4 13, qc_f cI 6 (fun _ => 0)), (u4 14, qc_f cZ 6 (fun _ => 0)), (u4 15, qc_r cA 7 (u4 15)), (((u4 15)) + 1 + 0, qc_f cI 6 (fun _ => 0)), (((u4 15)) + 1 + 1, qc_f cI 6 (fun _ => 0)), (((u4 15)) + 1 + 2, qc_f cI 6 (fun _ => 0)), (((u4 15)) + 1 + 3, qc_f cI 6 (fun _ => 0)), (((u4 15)) + 1 + 4, qc_f cI 6 (fun _ => 0)), (((u4 15)) + 1 + 5, qc_f cI 6 (fun _ => 0)), (((u4 15)) + 1 + 6, qc_f cI 6 (fun _ => 0))] := hD
  refine W.widen (k := 34) (n := 2277) (by omega) (by omega) ?_
  refine lv_astore_n (lv' := [(1, .ref q0), (0, .ref b)]) hx hb dL_law_7 rfl hl (by decide) rfl (fun ls hl => ?_)
  refine va_new (ci := 5) (fs := [.int 0, .null, .null, .null, .null, .null, .null, .int 0, .null, .null, .int 0, .int 0, .null, .int 0, .int 0, .int 0, .null, .null, .null, .null, .null, .long 0, .long 0]) (C := RX5) (T := TX5) (N := 23) hx hb hts inlX5 tyX5 tyX5_ok hown (hts (.classLink RL 10 RX5) cm_3) (hts (.instantiable RX5 23) cm_4) (hts (.initialized RX5) cm_5) hK hP hD hS hA rfl (fun j hj => by rcases (show j = 0 ∨ j = 1 ∨ j = 2 ∨ j = 3 ∨ j = 4 ∨ j = 5 ∨ j = 6 ∨ j = 7 ∨ j = 8 ∨ j = 9 ∨ j = 10 ∨ j = 11 ∨ j = 12 ∨ j = 13 ∨ j = 14 ∨ j = 15 ∨ j = 16 ∨ j = 17 ∨ j = 18 ∨ j = 19 ∨ j = 20 ∨ j = 21 ∨ j = 22 by omega) with rfl | rfl | rfl | rfl | rfl | rfl | rfl | rfl | rfl | rfl | rfl | rfl | rfl | rfl | rfl | rfl | rfl | rfl | rfl | rfl | rfl | rfl | rfl <;> rfl) (Nat.le_of_ble_eq_true rfl) (Nat.le_of_ble_eq_true rfl) dL_law_8 (fun q8 H hP hD hS => ?_)
  have hP : va_P D vwCl [(q0, .inr (4, [.ref (u4 0), .ref (u4 2), .ref (u4 6), .ref (u4 12)])), (u4 0, .inr (0, [.int 0, .ref ((u4 1))])), (u4 1, qc_r cA 10 (u4 1)), (((u4 1)) + 1 + 0, qc_f cI 11 (fun _ => 0)), (((u4 1)) + 1 + 1, qc_f cI 11 (fun _ => 0)), (((u4 1)) + 1 + 2, qc_f cI 11 (fun _ => 0)), (((u4 1)) + 1 + 3, qc_f cI 11 (fun _ => 0)), (((u4 1)) + 1 + 4, qc_f cI 11 (fun _ => 0)), (((u4 1)) + 1 + 5, qc_f cI 11 (fun _ => 0)), (((u4 1)) + 1 + 6, qc_f cI 11 (fun _ => 0)), (((u4 1)) + 1 + 7, qc_f cI 11 (fun _ => 0)), (((u4 1)) + 1 + 8, qc_f cI 11 (fun _ => 0)), (((u4 1)) + 1 + 9, qc_f cI 11 (fun _ => 0)), (u4 2, .inr (2, [.int 4, .int 9, .int 10, .ref ((u4 3)), .ref ((u4 4)), .ref ((u4 5))])), (u4 3, qc_f cI 3 (fun _ => 0)), (u4 4, qc_f cI 3 (upd (upd (upd (fun _ => 0) 0 6) 1 6) 2 6)), (u4 5, qc_f cI 6 (upd (upd (upd (upd (upd (upd (fun _ => 0) 0 1) 1 1) 2 1) 3 1) 4 1) 5 1)), (u4 6, .inr (1, [.int 0, .int 0, .int 0, .ref ((u4 7)), .ref ((u4 8)), .ref ((u4 9)), .ref ((u4 10)), .ref ((u4 11))])), (u4 7, qc_f cI 3 (fun _ => 0)), (u4 8, qc_f cI 3 (fun _ => 0)), (u4 9, qc_f cI 3 (fun _ => 0)), (u4 10, qc_f cZ 1024 (fun _ => 0)), (u4 11, qc_f cZ 1024 (fun _ => 0)), (u4 12, .inr (3, [.int 0, .int 0, .int 0, .int 0, .ref ((u4 13)), .ref ((u4 14)), .ref ((u4 15))])), (u4 13, qc_f cI 6 (fun _ => 0)), (u4 14, qc_f cZ 6 (fun _ => 0)), (u4 15, qc_r cA 7 (u4 15)), (((u4 15)) + 1 + 0, qc_f cI 6 (fun _ => 0)), (((u4 15)) + 1 + 1, qc_f cI 6 (fun _ => 0)), (((u4 15)) + 1 + 2, qc_f cI 6 (fun _ => 0)), (((u4 15)) + 1 + 3, qc_f cI 6 (fun _ => 0)), (((u4 15)) + 1 + 4, qc_f cI 6 (fun _ => 0)), (((u4 15)) + 1 + 5, qc_f cI 6 (fun _ => 0)), (((u4 15)) + 1 + 6, qc_f cI 6 (fun _ => 0)), (q8, .inr (5, [.int 0, .null, .null, .null, .null, .null, .null, .int 0, .null, .null, .int 0, .int 0, .null, .int 0, .int 0, .int 0, .null, .null, .null, .null, .null, .long 0, .long 0]))] H := hP
  have hD : va_D (fun q : Nat => s.heap.size ≤ q) [(q0, .inr (4, [.ref (u4 0), .ref (u4 2), .ref (u4 6), .ref (u4 12)])), (u4 0, .inr (0, [.int 0, .ref ((u4 1))])), (u4 1, qc_r cA 10 (u4 1)), (((u4 1)) + 1 + 0, qc_f cI 11 (fun _ => 0)), (((u4 1)) + 1 + 1, qc_f cI 11 (fun _ => 0)), (((u4 1)) + 1 + 2, qc_f cI 11 (fun _ => 0)), (((u4 1)) + 1 + 3, qc_f cI 11 (fun _ => 0)), (((u4 1)) + 1 + 4, qc_f cI 11 (fun _ => 0)), (((u4 1)) + 1 + 5, qc_f cI 11 (fun _ => 0)), (((u4 1)) + 1 + 6, qc_f cI 11 (fun _ => 0)), (((u4 1)) + 1 + 7, qc_f cI 11 (fun _ => 0)), (((u4 1)) + 1 + 8, qc_f cI 11 (fun _ => 0)), (((u4 1)) + 1 + 9, qc_f cI 11 (fun _ => 0)), (u4 2, .inr (2, [.int 4, .int 9, .int 10, .ref ((u4 3)), .ref ((u4 4)), .ref ((u4 5))])), (u4 3, qc_f cI 3 (fun _ => 0)), (u4 4, qc_f cI 3 (upd (upd (upd (fun _ => 0) 0 6) 1 6) 2 6)), (u4 5, qc_f cI 6 (upd (upd (upd (upd (upd (upd (fun _ => 0) 0 1) 1 1) 2 1) 3 1) 4 1) 5 1)), (u4 6, .inr (1, [.int 0, .int 0, .int 0, .ref ((u4 7)), .ref ((u4 8)), .ref ((u4 9)), .ref ((u4 10)), .ref ((u4 11))])), (u4 7, qc_f cI 3 (fun _ => 0)), (u4 8, qc_f cI 3 (fun _ => 0)), (u4 9, qc_f cI 3 (fun _ => 0)), (u4 10, qc_f cZ 1024 (fun _ => 0)), (u4 11, qc_f cZ 1024 (fun _ => 0)), (u4 12, .inr (3, [.int 0, .int 0, .int 0, .int 0, .ref ((u4 13)), .ref ((u4 14)), .ref ((u4 15))])), (u4 13, qc_f cI 6 (fun _ => 0)), (u4 14, qc_f cZ 6 (fun _ => 0)), (u4 15, qc_r cA 7 (u4 15)), (((u4 15)) + 1 + 0, qc_f cI 6 (fun _ => 0)), (((u4 15)) + 1 + 1, qc_f cI 6 (fun _ => 0)), (((u4 15)) + 1 + 2, qc_f cI 6 (fun _ => 0)), (((u4 15)) + 1 + 3, qc_f cI 6 (fun _ => 0)), (((u4 15)) + 1 + 4, qc_f cI 6 (fun _ => 0)), (((u4 15)) + 1 + 5, qc_f cI 6 (fun _ => 0)), (((u4 15)) + 1 + 6, qc_f cI 6 (fun _ => 0)), (q8, .inr (5, [.int 0, .null, .null, .null, .null, .null, .null, .int 0, .null, .null, .int 0, .int 0, .null, .int 0, .int 0, .int 0, .null, .null, .null, .null, .null, .long 0, .long 0]))] := hD
  refine W.widen (k := 35) (n := 2300) (by omega) (by omega) ?_
  refine lv_dup hx hb dL_law_11 rfl ?_
  have hPc := hP.sub (ws' := [(q8, .inr (5, [.int 0, .null, .null, .null, .null, .null, .null, .int 0, .null, .null, .int 0, .int 0, .null, .int 0, .int 0, .int 0, .null, .null, .null, .null, .null, .long 0, .long 0]))]) [34] rfl
  have hDc := hD.sub (ws' := [(q8, .inr (5, [.int 0, .null, .null, .null, .null, .null, .null, .int 0, .null, .null, .int 0, .int 0, .null, .int 0, .int 0, .int 0, .null, .null, .null, .null, .null, .long 0, .long 0]))]) [34] (by decide) rfl
  have hFc := va_free (wc := [(q8, .inr (5, [.int 0, .null, .null, .null, .null, .null, .null, .int 0, .null, .null, .int 0, .int 0, .null, .int 0, .int 0, .int 0, .null, .null, .null, .null, .null, .long 0, .long 0]))]) hD hS hA [34] rfl
  refine va_callv (va_runI (As := []) (rest := [.ref q8]) ⟨hx, hb, hml, hown, hts⟩ (cb_X5 l D cI cZ cA q8 H.size) (cwI 0 hts (q_goodC cm_62 rfl q_goodB) rfl rfl rfl (hts (.initialized RX5) cm_5) (hts (.methodLink RL 12 yX5_init) cm_60) (hts (.instanceMethod yX5_init) cm_61) rfl (by decide +kernel) ⟨(Nat.le_of_ble_eq_true rfl), (Nat.le_of_ble_eq_true rfl)⟩) ⟨qb_blind, fun U hU hW => ⟨rfl, by rw [hU], by rw [hU]; exact hPc, va_K.moved hW.alike hK, hDc.weaken (fun _ _ _ _ => trivial), hAA.moved hW.alike, qb_NW.warm hW hBW⟩⟩ rfl rfl hl.1 rfl (lv_room (Nat.le_of_ble_eq_true rfl)) dL_law_12 ⟨(Nat.le_of_ble_eq_true rfl), (Nat.le_of_ble_eq_true rfl)⟩) hS (fun q _ h => hFc q h) hFc (fun u12 t H1 locs ht hvm hw hB hz1 hk1 hS => ?_)
  obtain ⟨hP1, hD1⟩ := hB
  rw [ht] at hP1
  obtain ⟨hP, hD⟩ := va_join (wr := [(q0, .inr (4, [.ref (u4 0), .ref (u4 2), .ref (u4 6), .ref (u4 12)])), (u4 0, .inr (0, [.int 0, .ref ((u4 1))])), (u4 1, qc_r cA 10 (u4 1)), (((u4 1)) + 1 + 0, qc_f cI 11 (fun _ => 0)), (((u4 1)) + 1 + 1, qc_f cI 11 (fun _ => 0)), (((u4 1)) + 1 + 2, qc_f cI 11 (fun _ => 0)), (((u4 1)) + 1 + 3, qc_f cI 11 (fun _ => 0)), (((u4 1)) + 1 + 4, qc_f cI 11 (fun _ => 0)), (((u4 1)) + 1 + 5, qc_f cI 11 (fun _ => 0)), (((u4 1)) + 1 + 6, qc_f cI 11 (fun _ => 0)), (((u4 1)) + 1 + 7, qc_f cI 11 (fun _ => 0)), (((u4 1)) + 1 + 8, qc_f cI 11 (fun _ => 0)), (((u4 1)) + 1 + 9, qc_f cI 11 (fun _ => 0)), (u4 2, .inr (2, [.int 4, .int 9, .int 10, .ref ((u4 3)), .ref ((u4 4)), .ref ((u4 5))])), (u4 3, qc_f cI 3 (fun _ => 0)), (u4 4, qc_f cI 3 (upd (upd (upd (fun _ => 0) 0 6) 1 6) 2 6)), (u4 5, qc_f cI 6 (upd (upd (upd (upd (upd (upd (fun _ => 0) 0 1) 1 1) 2 1) 3 1) 4 1) 5 1)), (u4 6, .inr (1, [.int 0, .int 0, .int 0, .ref ((u4 7)), .ref ((u4 8)), .ref ((u4 9)), .ref ((u4 10)), .ref ((u4 11))])), (u4 7, qc_f cI 3 (fun _ => 0)), (u4 8, qc_f cI 3 (fun _ => 0)), (u4 9, qc_f cI 3 (fun _ => 0)), (u4 10, qc_f cZ 1024 (fun _ => 0)), (u4 11, qc_f cZ 1024 (fun _ => 0)), (u4 12, .inr (3, [.int 0, .int 0, .int 0, .int 0, .ref ((u4 13)), .ref ((u4 14)), .ref ((u4 15))])), (u4 13, qc_f cI 6 (fun _ => 0)), (u4 14, qc_f cZ 6 (fun _ => 0)), (u4 15, qc_r cA 7 (u4 15)), (((u4 15)) + 1 + 0, qc_f cI 6 (fun _ => 0)), (((u4 15)) + 1 + 1, qc_f cI 6 (fun _ => 0)), (((u4 15)) + 1 + 2, qc_f cI 6 (fun _ => 0)), (((u4 15)) + 1 + 3, qc_f cI 6 (fun _ => 0)), (((u4 15)) + 1 + 4, qc_f cI 6 (fun _ => 0)), (((u4 15)) + 1 + 5, qc_f cI 6 (fun _ => 0)), (((u4 15)) + 1 + 6, qc_f cI 6 (fun _ => 0))]) (w1 := qw_X5 cI cZ cA q8 u12) hP hD [34] [0, 1, 2, 3, 4, 5, 6, 7, 8, 9, 10, 11, 12, 13, 14, 15, 16, 17, 18, 19, 20, 21, 22, 23, 24, 25, 26, 27, 28, 29, 30, 31, 32, 33] rfl rfl (by decide) (by decide) hk1 hFc hP1 hD1
  generalize H1 = H at hP hS ⊢
  have hP : va_P D vwCl [(q0, .inr (4, [.ref (u4 0), .ref (u4 2), .ref (u4 6), .ref (u4 12)])), (u4 0, .inr (0, [.int 0, .ref ((u4 1))])), (u4 1, qc_r cA 10 (u4 1)), (((u4 1)) + 1 + 0, qc_f cI 11 (fun _ => 0)), (((u4 1)) + 1 + 1, qc_f cI 11 (fun _ => 0)), (((u4 1)) + 1 + 2, qc_f cI 11 (fun _ => 0)), (((u4 1)) + 1 + 3, qc_f cI 11 (fun _ => 0)), (((u4 1)) + 1 + 4, qc_f cI 11 (fun _ => 0)), (((u4 1)) + 1 + 5, qc_f cI 11 (fun _ => 0)), (((u4 1)) + 1 + 6, qc_f cI 11 (fun _ => 0)), (((u4 1)) + 1 + 7, qc_f cI 11 (fun _ => 0)), (((u4 1)) + 1 + 8, qc_f cI 11 (fun _ => 0)), (((u4 1)) + 1 + 9, qc_f cI 11 (fun _ => 0)), (u4 2, .inr (2, [.int 4, .int 9, .int 10, .ref ((u4 3)), .ref ((u4 4)), .ref ((u4 5))])), (u4 3, qc_f cI 3 (fun _ => 0)), (u4 4, qc_f cI 3 (upd (upd (upd (fun _ => 0) 0 6) 1 6) 2 6)), (u4 5, qc_f cI 6 (upd (upd (upd (upd (upd (upd (fun _ => 0) 0 1) 1 1) 2 1) 3 1) 4 1) 5 1)), (u4 6, .inr (1, [.int 0, .int 0, .int 0, .ref ((u4 7)), .ref ((u4 8)), .ref ((u4 9)), .ref ((u4 10)), .ref ((u4 11))])), (u4 7, qc_f cI 3 (fun _ => 0)), (u4 8, qc_f cI 3 (fun _ => 0)), (u4 9, qc_f cI 3 (fun _ => 0)), (u4 10, qc_f cZ 1024 (fun _ => 0)), (u4 11, qc_f cZ 1024 (fun _ => 0)), (u4 12, .inr (3, [.int 0, .int 0, .int 0, .int 0, .ref ((u4 13)), .ref ((u4 14)), .ref ((u4 15))])), (u4 13, qc_f cI 6 (fun _ => 0)), (u4 14, qc_f cZ 6 (fun _ => 0)), (u4 15, qc_r cA 7 (u4 15)), (((u4 15)) + 1 + 0, qc_f cI 6 (fun _ => 0)), (((u4 15)) + 1 + 1, qc_f cI 6 (fun _ => 0)), (((u4 15)) + 1 + 2, qc_f cI 6 (fun _ => 0)), (((u4 15)) + 1 + 3, qc_f cI 6 (fun _ => 0)), (((u4 15)) + 1 + 4, qc_f cI 6 (fun _ => 0)), (((u4 15)) + 1 + 5, qc_f cI 6 (fun _ => 0)), (((u4 15)) + 1 + 6, qc_f cI 6 (fun _ => 0)), (q8, .inr (5, [.int 0, .ref (u12 0), .ref (u12 1), .ref (u12 2), .ref (u12 3), .ref (u12 4), .ref (u12 5), .int 4, .ref (u12 6), .ref (u12 7), .int 9, .int 10, .ref (u12 8), .int 0, .int 0, .int 0, .ref (u12 9), .ref (u12 10), .ref (u12 11), .ref (u12 12), .ref (u12 13), .long 0, .long 0])), (u12 0, qc_f cI 10 (fun _ => 0)), (u12 1, qc_f cI 10 (fun _ => 0)), (u12 2, qc_f cI 10 (fun _ => 0)), (u12 3, qc_f cI 10 (fun _ => 0)), (u12 4, qc_f cI 10 (fun _ => 0)), (u12 5, qc_f cI 60 (fun _ => 0)), (u12 6, qc_f cI 3 (fun _ => 0)), (u12 7, qc_f cI 3 (upd (upd (upd (fun _ => 0) 0 6) 1 6) 2 6)), (u12 8, qc_f cI 6 (upd (upd (upd (upd (upd (upd (fun _ => 0) 0 1) 1 1) 2 1) 3 1) 4 1) 5 1)), (u12 9, qc_f cI 16 (fun _ => 0)), (u12 10, qc_f cZ 16 (fun _ => 0)), (u12 11, qc_f cI 72 (fun _ => 0)), (u12 12, qc_f cZ 1024 (fun _ => 0)), (u12 13, qc_f cZ 1024 (fun _ => 0))] H := hP
  have hD : va_D (fun q : Nat => s.heap.size ≤ q) [(q0, .inr (4, [.ref (u4 0), .ref (u4 2), .ref (u4 6), .ref (u4 12)])), (u4 0, .inr (0, [.int 0, .ref ((u4 1))])), (u4 1, qc_r cA 10 (u4 1)), (((u4 1)) + 1 + 0, qc_f cI 11 (fun _ => 0)), (((u4 1)) + 1 + 1, qc_f cI 11 (fun _ => 0)), (((u4 1)) + 1 + 2, qc_f cI 11 (fun _ => 0)), (((u4 1)) + 1 + 3, qc_f cI 11 (fun _ => 0)), (((u4 1)) + 1 + 4, qc_f cI 11 (fun _ => 0)), (((u4 1)) + 1 + 5, qc_f cI 11 (fun _ => 0)), (((u4 1)) + 1 + 6, qc_f cI 11 (fun _ => 0)), (((u4 1)) + 1 + 7, qc_f cI 11 (fun _ => 0)), (((u4 1)) + 1 + 8, qc_f cI 11 (fun _ => 0)), (((u4 1)) + 1 + 9, qc_f cI 11 (fun _ => 0)), (u4 2, .inr (2, [.int 4, .int 9, .int 10, .ref ((u4 3)), .ref ((u4 4)), .ref ((u4 5))])), (u4 3, qc_f cI 3 (fun _ => 0)), (u4 4, qc_f cI 3 (upd (upd (upd (fun _ => 0) 0 6) 1 6) 2 6)), (u4 5, qc_f cI 6 (upd (upd (upd (upd (upd (upd (fun _ => 0) 0 1) 1 1) 2 1) 3 1) 4 1) 5 1)), (u4 6, .inr (1, [.int 0, .int 0, .int 0, .ref ((u4 7)), .ref ((u4 8)), .ref ((u4 9)), .ref ((u4 10)), .ref ((u4 11))])), (u4 7, qc_f cI 3 (fun _ => 0)), (u4 8, qc_f cI 3 (fun _ => 0)), (u4 9, qc_f cI 3 (fun _ => 0)), (u4 10, qc_f cZ 1024 (fun _ => 0)), (u4 11, qc_f cZ 1024 (fun _ => 0)), (u4 12, .inr (3, [.int 0, .int 0, .int 0, .int 0, .ref ((u4 13)), .ref ((u4 14)), .ref ((u4 15))])), (u4 13, qc_f cI 6 (fun _ => 0)), (u4 14, qc_f cZ 6 (fun _ => 0)), (u4 15, qc_r cA 7 (u4 15)), (((u4 15)) + 1 + 0, qc_f cI 6 (fun _ => 0)), (((u4 15)) + 1 + 1, qc_f cI 6 (fun _ => 0)), (((u4 15)) + 1 + 2, qc_f cI 6 (fun _ => 0)), (((u4 15)) + 1 + 3, qc_f cI 6 (fun _ => 0)), (((u4 15)) + 1 + 4, qc_f cI 6 (fun _ => 0)), (((u4 15)) + 1 + 5, qc_f cI 6 (fun _ => 0)), (((u4 15)) + 1 + 6, qc_f cI 6 (fun _ => 0)), (q8, .inr (5, [.int 0, .ref (u12 0), .ref (u12 1), .ref (u12 2), .ref (u12 3), .ref (u12 4), .ref (u12 5), .int 4, .ref (u12 6), .ref (u12 7), .int 9, .int 10, .ref (u12 8), .int 0, .int 0, .int 0, .ref (u12 9), .ref (u12 10), .ref (u12 11), .ref (u12 12), .ref (u12 13), .long 0, .long 0])), (u12 0, qc_f cI 10 (fun _ => 0)), (u12 1, qc_f cI 10 (fun _ => 0)), (u12 2, qc_f cI 10 (fun _ => 0)), (u12 3, qc_f cI 10 (fun _ => 0)), (u12 4, qc_f cI 10 (fun _ => 0)), (u12 5, qc_f cI 60 (fun _ => 0)), (u12 6, qc_f cI 3 (fun _ => 0)), (u12 7, qc_f cI 3 (upd (upd (upd (fun _ => 0) 0 6) 1 6) 2 6)), (u12 8, qc_f cI 6 (upd (upd (upd (upd (upd (upd (fun _ => 0) 0 1) 1 1) 2 1) 3 1) 4 1) 5 1)), (u12 9, qc_f cI 16 (fun _ => 0)), (u12 10, qc_f cZ 16 (fun _ => 0)), (u12 11, qc_f cI 72 (fun _ => 0)), (u12 12, qc_f cZ 1024 (fun _ => 0)), (u12 13, qc_f cZ 1024 (fun _ => 0))] := hD
  refine W.widen (k := 49) (n := 4574) (by omega) (by omega) ?_
  refine lv_astore_n (lv' := [(2, .ref q8), (1, .ref q0), (0, .ref b)]) hx hb dL_law_15 rfl hl (by decide) rfl (fun ls hl => ?_)
  refine lv_iconst (v := 0) hx hb dL_law_16 (by decide) ?_
  refine lv_istore_n (lv' := [(3, .int 0), (2, .ref q8), (1, .ref q0), (0, .ref b)]) hx hb dL_law_17 rfl hl (by decide) rfl (fun ls hl => ?_)
  refine W.widen (k := 600000) (n := 7302249) (by omega) (by omega) ?_
  obtain ⟨r, M1, ⟨f0, hrun⟩, hr1⟩ := law_run (xs, L) hL 0 (L + 6) 0 q_S0 q_M0 (Nat.le_refl _) (Nat.zero_le _) q_S0_ok q_S0_x q_S0_m
  subst hr1
  have hg : ∀ i, i < 49 → s.heap.size ≤ qe_ad q0 q8 b u4 u12 i := fun i hi => (qe_D (b := b) (x := q0) (y := q8) (a := u4) (a5 := u12) hD q_M0).2 i _ (q_W_at _ q_M0 hi)
  refine q_runs (D := D) (g := (qe_ad q0 q8 b u4 u12, cI, cZ, cA)) (A := fun q : Nat => s.heap.size ≤ q) (H0 := s.heap) (X := (xs, L)) (mi := 112) ⟨hx, hb, hml, hown, hts, hK, qe_D hD, fun _ => ⟨hX, hbl, hbA⟩⟩ hNW (dd := 0 + 12) (Nat.le_of_ble_eq_true rfl) (Nat.le_of_ble_eq_true rfl) (Nat.le_refl _) (Nat.le_refl _) (q_met_all l (xs, L) (0 + 12)) (fun q hq => hq) hg (G := f0) (r := some (.int 1)) (M' := M1) ?_ f0 (18, [some (.ref 49), some (.ref 0), some (.ref 34), some (.int (nI 0))], [], q_M0) (hrun f0 f0 (Nat.le_refl _) (Nat.le_refl _)) H _ ls ⟨qe_P hP, hS, [(3, .int 0), (2, .ref q8), (1, .ref q0), (0, .ref b)], hl, ?_⟩
  · intro pc st H1 locs1 cls hP1 hS1 hri
    rcases hri with ⟨x, hdg, e1, e2, -⟩ | ⟨x, hdg, e1, e2, -⟩ | ⟨x, hdg, e1, e2, -⟩ | ⟨hdg, e1, e2, -⟩
    · subst e1
      cases e2
      refine va_forget hS1.2.2 ?_
      exact lw_ret hx hb hr hlocks hdg
    · cases e2
    · cases e2
    · cases e2
  · intro i v hv
    match i, hv with
    | 0, hv => cases hv; exact List.mem_of_getElem? (i := 3) (a := (0, Value.ref b)) rfl
    | 1, hv => cases hv; exact List.mem_of_getElem? (i := 2) (a := (1, Value.ref q0)) rfl
    | 2, hv => cases hv; exact List.mem_of_getElem? (i := 1) (a := (2, Value.ref q8)) rfl
    | 3, hv => cases hv; exact List.mem_of_getElem? (i := 0) (a := (3, Value.int 0)) rfl
    | i + 4, hv => cases hv
set_option maxHeartbeats 4000000 in
theorem lw_walk (l : Launch) (hflags : l.flags = flags0) (b : Addr) (xs : List Int32) : MetFree l x (headSpec (Jvm.Cond.code x code maxLocals ret :: tables_1) room_1) (lw_P b xs) (fun _ _ _ _ _ => True) lw_Q := by
  refine MetFree.of_bodyS (code := code) (maxLocals := maxLocals) (ret := ret) (by decide) ?_ ?_
  · intro args s m h hn
    obtain ⟨meth, c, h1, h2, h3, h4, h5, h6, -, -⟩ := Cond.code_spec hn (atoms_spec (ws := Jvm.Cond.code x code maxLocals ret :: tables_1) h _ List.mem_cons_self)
    exact ⟨meth, c, h1, h2, h3, h4, h5, h6⟩
  · intro p e s m args below meth c s₁ B hml0 hP _
    obtain ⟨rfl, hx, hbd, hgv⟩ := hP
    obtain ⟨scr, harrAt, hlist, hof, hsmall⟩ := hx
    obtain ⟨hcb, hkn, -, -⟩ := State.arrayAt?_spec harrAt
    have hown : s.vm.findClass R_law = some m.cls := findClass_of_methodNamed B.named
    have hts0 : ∀ c ∈ (Jvm.Cond.code x code maxLocals ret :: tables_1), c.before #[Value.ref b] s = true := atoms_spec (ws := Jvm.Cond.code x code maxLocals ret :: tables_1) B.pre
    have hts : ∀ w ∈ lw_tbl, w.before #[Value.ref b] s = true := k2_hts_sels lw_privs (fun w hw => hts0 w (List.mem_cons_of_mem _ hw)) lw_privs_ok
    have hml : c.maxLocals = 4 := B.maxLocals_eq (hts0 _ List.mem_cons_self)
    have X₀ : Stand p l e room_1 s m #[Value.ref b] below meth c s₁ [] 0 0 := Stand.of_body B
    have hh0 : s₁.heap = s.heap := by rw [B.state]; rfl
    have hsz : scr.slots.size = xs.length := by rw [← Array.length_toList, hlist, List.length_map]
    have hval : ∀ j : Nat, j < xs.length → scr.slots[j]? = some (.int (xs.getD j 0)) := fun j hj => by
      rw [← Array.getElem?_toList, hlist]
      simp [hj]
    have hbl : b < s.heap.size := (Array.getElem?_eq_some_iff.mp hcb).1
    have hX : va_X b xs.length (fun j => xs.getD j 0) s s.heap := ⟨scr, hcb, hof, hkn, hsz, hval⟩
    have K : W p l e room_1 s m #[Value.ref b] below meth c s₁.heap [] 0 0 (lw_Z below #[Value.ref b] s) (entryFrame m ([Value.ref b] : List Value).toArray 4) := by
      rw [hh0]
      exact whole_start l hflags hbd ⟨B.exec, B.bytes, B.returns, hml, hown, hts, hX, hbl, B.notSynchronized, hgv⟩
    obtain ⟨t, a1, o, b1, b2, b3⟩ := K s₁ rfl X₀
    exact ⟨t, o, a1, b1, b2, b3⟩
theorem lw_pre_spec {args : Array Value} {s : State} (h : (Jvm.Cond.and given_1 narrow_1).before args s = true) (hr : rest_1_c.before args s = true) : ∃ (b : Addr) (xs : List Int32), lw_P b xs args s := by
  have hs := flat_of_before _ h
  have hq := flat_of_before _ hr
  have hc : (Cond.count 1).before args s = true := hs _ (by decide +kernel)
  have harr : (Cond.arrayOf (.arg 0) .int).before args s = true := hs _ (by decide +kernel)
  have hle : (Cond.le (.length (.arg 0)) (.int 3072)).before args s = true := hs _ (by decide +kernel)
  have hlen : (Cond.isInt (.length (.arg 0))).before args s = true := hq _ (by decide +kernel)
  have hall : (Cond.all (.arg 0) (.isInt (.elem (.arg 0) (.index 0)))).before args s = true := hq _ (by decide +kernel)
  obtain ⟨b, xs, hb, hx⟩ := State.ints_of_pre rfl harr hlen hall
  have hsm : xs.length < 2 ^ 31 := hx.choose_spec.2.2.2
  have hev : (Term.length (.arg 0)).eval args s none [] s = some (.int xs.length.toInt32) := hx.length_eval hb
  have hv := Cond.le_ints hev (show (Term.int 3072).eval args s none [] s = some (.int 3072) from rfl)
  have hd : xs.length.toInt32 ≤ 3072 := by
    simpa [Cond.before, Cond.holds, hv] using hle
  have hN : xs.length ≤ 3072 := (Int32.ofNat_le_ofNat hsm (by decide)).mp (show Int32.ofNat xs.length ≤ Int32.ofNat 3072 from hd)
  exact ⟨b, xs, Cond.one_arg hc (show args[0]? = some (.ref b) from hb), hx, hN, h⟩
theorem lw_comes (l : Launch) (hflags : l.flags = flags0) : Comes l x (Jvm.Cond.code x code maxLocals ret :: tables_1) room_1 (fun tb e args s => Calls_1 tb e args s ∧ rest_1 tb e args s ∧ Pre_1 tb e args s)
    (fun _ _ args s o t => lw_Q args s o t) := by
  intro p e ha hc hk s m args below hf hfit hheap happ hpre
  obtain ⟨b, xs, hP⟩ := lw_pre_spec hpre.2.2 hpre.2.1
  obtain ⟨k, o, h1, h2, h3, hQ⟩ := lw_walk l hflags b xs p e ha hc hk s m args below hf ((Spec.applies_iff_loose hf).mp happ).1 hP trivial
  exact ⟨k, o, h1, h2, h3, hQ⟩
theorem lw_frame {s t : State} {o : Outcome} {args : Array Value} (h : Framed s o t [] 600000 7302249) :
    Framed s o t (fieldLocs frame_1_writes args s ++ arrayLocs frame_1_arrays args s ++ staticLocs frame_1_statics s) 600000 7302249 := h
theorem lw_limb (L : Cond) (hL : ∀ (args : Array Value) (s t : State), L.after args s (.returned (some (.int 1))) t = true) :
    ArmFor flags0 classFile x code maxLocals ret World_1 tables_1 room_1 Calls_1 rest_1 Pre_1
      (fun tb e a s o t => postC L tb e a s o t ∧ Framed s o t (fieldLocs frame_1_writes a s ++ arrayLocs frame_1_arrays a s ++ staticLocs frame_1_statics s) 600000 7302249) := by
  intro l hflags _ _ p e ha hc hk s m args below hf hfit hheap happ hpre
  obtain ⟨k, o, h1, h2, h3, rfl, hF⟩ := lw_comes l hflags p e ha hc hk s m args below hf hfit hheap happ hpre
  exact ⟨k, _, h1, h2, h3, hL args s _, lw_frame hF⟩
theorem i_vc : Claimed_1_1 ∧ Claimed_1_2 := ⟨lw_limb limb_1_1 (fun args s t => by simp [limb_1_1, Cond.after, Cond.holds, Cond.value]), lw_limb limb_1_2 (fun args s t => Cond.after_iff.mpr (by
  first | (rw [show limb_1_2 = Cond.eq .result (.int 1) from rfl, Cond.eq_ints (x := 1) (y := 1) rfl rfl]; simp; done) | (simp [limb_1_2, Cond.value, Term.eval]; done)))⟩
