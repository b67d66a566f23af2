/-! A row of rows (multianewarray, two dimensions), in closed form, and its row for a walk. -/
/-- the outer row, when i inner ones are in it -/
def qg_f (h i : Nat) : Nat → Value := fun j => if j < i then .ref (h + 1 + j) else .null
theorem qg_fs (h i : Nat) : updV (qg_f h i) i (.ref (h + 1 + i)) = qg_f h (i + 1) := by
  funext j
  unfold updV qg_f
  by_cases e : j = i
  · subst e; rw [if_pos rfl, if_pos (by omega)]
  · rw [if_neg e]
    by_cases e2 : j < i
    · rw [if_pos e2, if_pos (by omega)]
    · rw [if_neg e2, if_neg (by omega)]
/-- the state, when i inner ones are made -/
def qg_s (cA cI : ClassId) (N M : Nat) (T : State) : Nat → State
  | 0 => T.pushCell (arrV cA N (qg_f T.heap.size 0))
  | i + 1 => ((qg_s cA cI N M T i).pushCell (arrV cI M (fun _ => .int 0))).setCell T.heap.size (arrV cA N (qg_f T.heap.size (i + 1)))
theorem qg_top {cA cI : ClassId} {N M : Nat} {T : State} (f : JFrame) : ∀ i, qg_s cA cI N M (T.setTop f) i = (qg_s cA cI N M T i).setTop f
  | 0 => rfl
  | i + 1 => by
    rw [qg_s, qg_s, qg_top f i]
    rfl
theorem qg_at {cA cI : ClassId} {N M : Nat} {T : State} : ∀ i, (qg_s cA cI N M T i).vm = T.vm ∧ (qg_s cA cI N M T i).slotsUsed = T.slotsUsed + N + i * M ∧ (qg_s cA cI N M T i).heap.size = T.heap.size + 1 + i ∧ (∀ q, q < T.heap.size → (qg_s cA cI N M T i).heap[q]? = T.heap[q]?) ∧ (qg_s cA cI N M T i).heap[T.heap.size]? = some (arrV cA N (qg_f T.heap.size i)) ∧ ∀ j, j < i → (qg_s cA cI N M T i).heap[T.heap.size + 1 + j]? = some (arrV cI M (fun _ => .int 0))
  | 0 => by
    refine ⟨rfl, ?_, ?_, fun q hq => ?_, ?_, fun j hj => absurd hj (Nat.not_lt_zero _)⟩
    · show T.slotsUsed + (arrV cA N _).slots.size = _
      rw [arrV_size]; omega
    · show (T.heap.push _).size = _
      rw [Array.size_push]
    · show (T.heap.push _)[q]? = _
      rw [Array.getElem?_push, if_neg (by omega)]
    · show (T.heap.push _)[T.heap.size]? = _
      rw [Array.getElem?_push, if_pos rfl]
  | i + 1 => by
    obtain ⟨a1, a2, a3, a4, a5, a6⟩ := qg_at (cA := cA) (cI := cI) (N := N) (M := M) (T := T) i
    have hh : (qg_s cA cI N M T (i + 1)).heap = ((qg_s cA cI N M T i).heap.push (arrV cI M (fun _ => .int 0))).setIfInBounds T.heap.size (arrV cA N (qg_f T.heap.size (i + 1))) := rfl
    have ho : ∀ q, T.heap.size ≠ q → (qg_s cA cI N M T (i + 1)).heap[q]? = ((qg_s cA cI N M T i).heap.push (arrV cI M (fun _ => .int 0)))[q]? := fun q hq => by rw [hh, Array.getElem?_setIfInBounds, if_neg hq]
    refine ⟨a1, ?_, ?_, fun q hq => ?_, ?_, fun j hj => ?_⟩
    · show (qg_s cA cI N M T i).slotsUsed + (arrV cI M _).slots.size = _
      rw [arrV_size, a2, Nat.succ_mul]; omega
    · rw [hh, Array.size_setIfInBounds, Array.size_push, a3]
      omega
    · rw [ho q (by omega), Array.getElem?_push, if_neg (by omega), a4 q hq]
    · rw [hh, Array.getElem?_setIfInBounds, if_pos rfl, if_pos (by rw [Array.size_push]; omega)]
    · rw [ho _ (by omega), Array.getElem?_push, a3]
      by_cases e : j = i
      · subst e; rw [if_pos rfl]
      · rw [if_neg (by omega)]; exact a6 j (by omega)
section QGR
variable {p : Program} {l : Launch} {e : Env} {R : Room} {s : State} {m : MethodId} {args : Array Value} {below : List Frame} {meth : Method} {c : Code} {T : State} {locs : List Loc} {cells slots : Nat}
theorem qg_stand {cA cI : ClassId} {N M : Nat} (X : Stand p l e R s m args below meth c T locs cells slots) : ∀ i, ∃ L : List Loc, (∀ q ∈ L, q.base = T.heap.size) ∧ Stand p l e R s m args below meth c (qg_s cA cI N M T i) (locs ++ L) (cells + 1 + i) (slots + N + i * M)
  | 0 => by
    have h := X.pushed (arrV cA N (qg_f T.heap.size 0))
    rw [arrV_size] at h
    refine ⟨[], fun q hq => (by cases hq), ?_⟩
    rw [List.append_nil, Nat.zero_mul]
    exact h
  | i + 1 => by
    obtain ⟨L, hL, Xi⟩ := qg_stand (cA := cA) (cI := cI) (N := N) (M := M) X i
    obtain ⟨a1, a2, a3, a4, a5, a6⟩ := qg_at (cA := cA) (cI := cI) (N := N) (M := M) (T := T) i
    have h1 := Xi.pushed (arrV cI M (fun _ => .int 0))
    rw [arrV_size] at h1
    have hc : ((qg_s cA cI N M T i).pushCell (arrV cI M (fun _ => .int 0))).heap[T.heap.size]? = some (arrV cA N (qg_f T.heap.size i)) := by
      show ((qg_s cA cI N M T i).heap.push _)[_]? = _
      rw [Array.getElem?_push, if_neg (by omega)]; exact a5
    have h2 := h1.stored hc i (.ref (T.heap.size + 1 + i))
    rw [arrV_store, qg_fs, List.append_assoc] at h2
    refine ⟨L ++ [⟨T.heap.size, i⟩], fun q hq => ?_, ?_⟩
    · rcases List.mem_append.mp hq with h | h
      · exact hL q h
      · rw [List.mem_singleton.mp h]
    · have e1 : slots + N + (i + 1) * M = slots + N + i * M + M := by rw [Nat.succ_mul]; omega
      rw [e1]
      exact h2
end QGR
section QGW
variable {E : CtlPost} {e : Env} {d : Bool} {acts : List Action} {S : State}
theorem qg_alloc {c comp : ClassId} {k : Class} {ty : FieldType} {N : Nat} {v : Value} (hk : S.vm.classes[c]? = some k) (hkind : k.kind = .array comp ty) (h1 : ¬ N > e.platform.arrayLengthLimit) (h2 : ¬ N * componentBytes ty > e.platform.maxHeapBytes) (hf : fits ty v = true) (hd : v.isDefault = true) (h3 : S.heap.size + 1 ≤ e.platform.maxCells) (h4 : S.slotsUsed + N ≤ e.platform.maxSlots) {Q : Addr → Pre} (hq : Q S.heap.size d acts (S.pushCell (arrV c N (fun _ => v)))) : wp (Jvm.newArray c N v) Q E e d acts S := by
  have hfit : ∀ i w, (Array.replicate N v)[i]? = some w → S.fitsSlot c .none i w = true := by
    intro i w hw
    rw [Array.getElem?_replicate] at hw
    split at hw
    · cases hw; simp [State.fitsSlot, State.slotType?, hk, hkind, hf]
    · cases hw
  have hact : allocActs (Array.replicate N v) S.heap.size acts = acts := by
    have hall : ((Array.replicate N v).all (·.isDefault)) = true := by
      rw [Array.all_replicate]; split <;> simp [hd]
    unfold allocActs
    rw [if_pos hall]
  rw [← arrV_new] at hq
  simp only [Jvm.newArray, Jvm.arrayFits, wp_bind', W.ask, W.ite, h1, if_false, wp_pure', W.theClass, hk, hkind, h2, W.stop, W.alloc, Option.some.injEq, exists_eq_left', Array.size_replicate, hact]
  rw [if_neg (by omega)]
  exact ⟨h3, h4, hfit, hq⟩
end QGW
section QGM
variable {E : CtlPost} {e : Env} {d : Bool} {acts : List Action} {S : State}
theorem qg_mk1 {cI cc : ClassId} {kI : Class} {M : Nat} (hM : M ≤ 1000) (hk : S.vm.classes[cI]? = some kI) (hkind : kI.kind = .array cc .int) (h1 : ¬ M > e.platform.arrayLengthLimit) (h2 : ¬ M * 4 > e.platform.maxHeapBytes) (h3 : S.heap.size + 1 ≤ e.platform.maxCells) (h4 : S.slotsUsed + M ≤ e.platform.maxSlots) {Q : Addr → Pre} (hq : Q S.heap.size d acts (S.pushCell (arrV cI M (fun _ => .int 0)))) : wp (multianewarray.make cI [nI M]) Q E e d acts S := by
  have hn : ¬ nI M < 0 := nI_pos (by omega)
  rw [multianewarray.make]
  simp only [wp_bind', W.ite, hn, if_false, wp_pure', W.theClass, hk, hkind, Option.some.injEq, exists_eq_left', nI_clamp (show M < 2 ^ 31 by omega)]
  exact qg_alloc (v := .int 0) hk hkind h1 h2 rfl rfl h3 h4 hq
theorem qg_mk2 {cA cI cc : ClassId} {kA kI : Class} {N M : Nat} (hN : N ≤ 1000) (hM : M ≤ 1000) (hkA : S.vm.classes[cA]? = some kA) (hkindA : kA.kind = .array cI (.array .int)) (hk : S.vm.classes[cI]? = some kI) (hkind : kI.kind = .array cc .int) (hN1 : ¬ N > e.platform.arrayLengthLimit) (hN2 : ¬ N * 4 > e.platform.maxHeapBytes) (h1 : ¬ M > e.platform.arrayLengthLimit) (h2 : ¬ M * 4 > e.platform.maxHeapBytes) (h3 : S.heap.size + (1 + N) ≤ e.platform.maxCells) (h4 : S.slotsUsed + (N + N * M) ≤ e.platform.maxSlots) {Q : Addr → Pre} (hq : ∀ d' acts', Q S.heap.size d' acts' (qg_s cA cI N M S N)) : wp (multianewarray.make cA [nI N, nI M]) Q E e d acts S := by
  have hn : ¬ nI N < 0 := nI_pos (by omega)
  have hm : ¬ nI M < 0 := nI_pos (by omega)
  have hf : [nI M].find? (· < 0) = none := by simp [hm]
  rw [multianewarray.make]
  simp only [wp_bind', W.ite, hn, if_false, wp_pure', W.theClass, hkA, hkindA, Option.some.injEq, exists_eq_left', nI_clamp (show N < 2 ^ 31 by omega)]
  refine qg_alloc (v := .null) hkA hkindA hN1 hN2 rfl rfl (by omega) (by omega) ?_
  simp only [hf]
  rw [ite_self, wp_bind', Std.Legacy.Range.forIn_eq_forIn_range', show ([:N] : Std.Legacy.Range).size = N by simp [Std.Legacy.Range.size]]
  show wp (forIn (List.range' 0 N 1) PUnit.unit _) _ E e d acts _
  refine wp_forIn_inv (fun rest t => ∃ i, i ≤ N ∧ rest = List.range' i (N - i) ∧ t = qg_s cA cI N M S i) _ _ ⟨0, Nat.zero_le _, rfl, ?_⟩ ?_ ?_
  · show S.pushCell _ = S.pushCell _
    congr 2
  · rintro x rest t d' acts' Q' ⟨i, hi, hl, rfl⟩ hnext
    have hlt : i < N := by
      rcases Nat.lt_or_ge i N with h | h
      · exact h
      · rw [show N - i = 0 by omega] at hl; cases hl
    rw [show N - i = (N - (i + 1)) + 1 by omega, List.range'_succ] at hl
    obtain ⟨rfl, rfl⟩ := List.cons.inj hl
    obtain ⟨a1, a2, a3, a4, a5, a6⟩ := qg_at (cA := cA) (cI := cI) (N := N) (M := M) (T := S) x
    have hmul : x * M + M ≤ N * M := by
      have := Nat.mul_le_mul_right M (show x + 1 ≤ N from hlt)
      rwa [Nat.succ_mul] at this
    simp only [wp_bind']
    refine qg_mk1 hM (by rw [a1]; exact hk) hkind h1 h2 (by omega) (by omega) ?_
    simp only [wp_bind', W.writeLoc, wp_pure']
    refine ⟨arrV cA N (qg_f S.heap.size x), ?_, fun z => (by cases z), (by rw [arrV_size]; exact hlt), ?_, hnext _ _ _ ⟨x + 1, hlt, rfl, ?_⟩⟩
    · show ((qg_s cA cI N M S x).heap.push _)[_]? = _
      rw [Array.getElem?_push, if_neg (by omega)]; exact a5
    · show State.fitsSlot _ cA .none x _ = true
      simp [State.fitsSlot, State.slotType?, a1, hkA, hkindA, fits]
    · rw [a3, arrV_store, qg_fs]
      rfl
  · rintro t d' acts' ⟨i, hi, hl, rfl⟩
    have hiN : i = N := by
      rcases Nat.lt_or_ge i N with h | h
      · rw [show N - i = (N - (i + 1)) + 1 by omega, List.range'_succ] at hl; cases hl
      · omega
    subst hiN
    simp only [wp_pure']
    exact hq _ _
end QGM
/-- what the tables say of the rows of ints: their class, and that of the rows of them -/
def qg_AA (cA cI : ClassId) (U : State) : Prop := ∃ (kA kI : Class) (cc : ClassId), U.vm.classes[cA]? = some kA ∧ kA.kind = .array cI (.array .int) ∧ U.vm.classes[cI]? = some kI ∧ kI.kind = .array cc .int ∧ U.vm.findClass "[[I" = some cA
theorem qg_AA.moved {cA cI : ClassId} {u U : State} (hvm : u.vm.Alike U.vm) (h : qg_AA cA cI u) : qg_AA cA cI U := by
  obtain ⟨kA, kI, cc, h1, h2, h3, h4, h5⟩ := h
  obtain ⟨k', hk', he⟩ := hvm.2.2 _ _ h1
  obtain ⟨k2, hk2, he2⟩ := hvm.2.2 _ _ h3
  exact ⟨k', k2, cc, hk', by rw [he]; exact h2, hk2, by rw [he2]; exact h4, by rw [hvm.findClass]; exact h5⟩
section QGR2
variable {p : Program} {l : Launch} {e : Env} {R : Room} {s : State} {m : MethodId} {args : Array Value} {below : List Frame} {meth : Method} {c : Code} {H : Heap} {locs : List Loc} {cells slots : Nat} {Q : State → Prop}
theorem qg_row {cc : ByteArray} (hexec : p.tables.exec = Jvm.exec) (hb : c.code = cc) {own : String} {index pc N M : Nat} {cA cI : ClassId} (hown : s.vm.findClass own = some m.cls) (hlink : (Cond.classLink own index "[[I").before args s = true) (hAA : qg_AA cA cI s) (hN : N ≤ 1000) (hM : M ≤ 1000) (hcells : cells + (1 + N) ≤ R.cells) (hslots : slots + (N + N * M) ≤ R.slots) {ls : Array Slot} {rest : List Value} (hdg : decode cc pc = .ok (.multianewarray index 2, 4))
    (kk : ∀ (H1 : Heap) (L : List Loc), H1.size = H.size + 1 + N → (∀ q, q < H.size → H1[q]? = H[q]?) → H1[H.size]? = some (arrV cA N (qg_f H.size N)) → (∀ j, j < N → H1[H.size + 1 + j]? = some (arrV cI M (fun _ => .int 0))) → (∀ q ∈ L, q.base = H.size) → W p l e R s m args below meth c H1 (locs ++ L) (cells + 1 + N) (slots + N + N * M) Q (F0 m (pc + 4) ls (.ref H.size :: rest))) : W p l e R s m args below meth c H locs cells slots Q (F0 m pc ls (.int (nI M) :: .int (nI N) :: rest)) := by
  intro T hT X
  subst hT; subst hb
  have hpl : e.platform.magicAccessors = ({} : Platform).magicAccessors := by rw [X.admits.platform]
  obtain ⟨kA, kI, cx, hkA, hkindA, hkI, hkindI, hnm⟩ := hAA
  obtain ⟨c0, hfc, hcl⟩ := Cond.classLink_spec hown hlink e.platform hpl
  cases hnm.symm.trans hfc
  obtain ⟨hg1, hw1, -⟩ := State.classEntry (e := e) X.warmed hcl
  generalize T.vm.noted m.cls index (.cls cA) = vm1 at hg1 hw1
  obtain ⟨kA1, hkA1, heA⟩ := hw1.alike.2.2 _ _ hkA
  obtain ⟨kI1, hkI1, heI⟩ := hw1.alike.2.2 _ _ hkI
  have X1 := X.noted hw1
  obtain ⟨hr1, hr2⟩ := X.roomAbove hcells hslots
  obtain ⟨L, hL, X2⟩ := qg_stand (cA := cA) (cI := cI) (N := N) (M := M) X1 N
  obtain ⟨a1, a2, a3, a4, a5, a6⟩ := qg_at (cA := cA) (cI := cI) (N := N) (M := M) (T := T.setVm vm1) N
  obtain ⟨t, hst, hq⟩ := kk _ L a3 a4 a5 a6 hL _ rfl X2
  refine ⟨t, ?_, hq⟩
  have hlim : e.platform.arrayLengthLimit = _ := Launch.admits_arrayLengthLimit X.admits
  have hmax : e.platform.maxHeapBytes = _ := Launch.admits_maxHeapBytes X.admits
  jvm_step X.here [hexec, hdg]
  simp only [multianewarray.sem, wp_bind', W.resolveClassAt_links (State.method?_setTop (F0 m pc ls (.int (nI M) :: .int (nI N) :: rest)) X.here.top) hg1]
  rw [W.popN, if_neg (by decide)]
  refine ⟨F0 m pc ls (.int (nI M) :: .int (nI N) :: rest), State.topJava?_setTop' (s := T.setVm vm1) _ X.here.top, [.int (nI N), .int (nI M)], rest, rfl, rfl, ?_⟩
  simp only [List.mapM_cons, List.mapM_nil, wp_bind', wp_pure']
  refine qg_mk2 (kA := kA1) (kI := kI1) (cI := cI) (cc := cx) hN hM (by exact hkA1) (by rw [heA]; exact hkindA) (by exact hkI1) (by rw [heI]; exact hkindI) (by rw [hlim]; omega) (by rw [hmax]; omega) (by rw [hlim]; omega) (by rw [hmax]; omega) (by exact hr1) (by exact hr2) (fun d' acts' => ?_)
  have eS : ((T.setTop (F0 m pc ls (.int (nI M) :: .int (nI N) :: rest))).setVm vm1).setTop { F0 m pc ls (.int (nI M) :: .int (nI N) :: rest) with stack := rest } = (T.setVm vm1).setTop { F0 m pc ls (.int (nI M) :: .int (nI N) :: rest) with stack := rest } := by
    show ((T.setVm vm1).setTop _).setTop _ = _
    rw [State.setTop_setTop]
  rw [eS, qg_top]
  simp only [wp_bind', W.mark, W.pushRef, State.topJava?_setTop' _ X2.here.top, Option.some.injEq, exists_eq_left', State.setTop_setTop, State.heap_setTop]
  intro acts
  simp [jvm, X2.here.top]
  exact hst
end QGR2
