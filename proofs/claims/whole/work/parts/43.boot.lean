/-! Boot: new rows of a known class in a world; what a constructor's start is. -/
section QBT
variable {p : Program} {l : Launch} {e : Env} {R : Room} {s : State} {m : MethodId} {args : Array Value} {below : List Frame} {meth : Method} {c : Code} {H : Heap} {locs : List Loc} {cells slots : Nat} {Q : State → Prop}
variable {D : va_G} {cl : List vw_C} {tys : List (ClassId × FieldType)} {A : Nat → Prop} {H0 : Heap} {ws : va_W} {cc : ByteArray} {pc : Nat} {ls : Array Slot} {rest : List Value}
theorem qb_newa (hexec : p.tables.exec = Jvm.exec) (hb : c.code = cc) {atype : ArrayType} (harr : (Cond.arrayClass (newarray.typeOf atype)).before args s = true) {ty : FieldType} (hty : newarray.typeOf atype = ty) (hK : va_K D cl tys s) (hP : va_P D cl ws H) (hD : va_D A ws) (hS : va_S A H0 H locs) (hA : ∀ q, H0.size ≤ q → A q) (t0 : Nat) {cT : ClassId} (ht : tys[t0]? = some (cT, ty))
    {n : Int32} {N' : Nat} {a0 : vp_A} (ha : ∀ cA : ClassId, vp_cell cA a0 = arrV cA N' (fun _ => defaultValue ty)) (hn : ¬ n < 0) (hN : n.toNatClampNeg = N') (hbytes : N' * componentBytes ty ≤ 536870912) (hcells : cells + 1 ≤ R.cells) (hslots : slots + N' ≤ R.slots) (hdg : decode cc pc = .ok (.newarray atype, 2))
    (kk : ∀ (q : Nat) (H1 : Heap), va_P D cl (ws ++ [(q, .inl (cT, a0))]) H1 → va_D A (ws ++ [(q, .inl (cT, a0))]) → va_S A H0 H1 locs → W p l e R s m args below meth c H1 locs (cells + 1) (slots + N') Q (F0 m (pc + 2) ls (.ref q :: rest))) : W p l e R s m args below meth c H locs cells slots Q (F0 m pc ls (.int n :: rest)) := by
  refine va_newa hexec hb harr hty hK hP hD hS hA ha hn hN hbytes hcells hslots hdg (fun q cA H1 hK1 hP1 hD1 hS1 => ?_)
  have e1 : cA = cT := by
    have h1 := (hK.2 t0 _ ht).2
    have h2 := (hK1.2 tys.length (cA, ty) (by simp)).2
    subst hty
    cases atype <;> exact Option.some.inj (h2.symm.trans h1)
  subst e1
  exact kk q H1 hP1 hD1 hS1
theorem qb_arrV_c {cA : ClassId} {N : Nat} {f g : Nat → Value} (h : ∀ j, j < N → f j = g j) : arrV cA N f = arrV cA N g := by
  unfold arrV
  congr 1
  apply Array.ext
  · simp
  · intro j h1 h2
    simp only [Array.getElem_ofFn]
    exact h j (by simpa using h1)
/-- the cells of a row of rows -/
def qb_rows (cI : ClassId) (M q : Nat) : Nat → va_W
  | 0 => []
  | i + 1 => qb_rows cI M q i ++ [(q + 1 + i, .inl (cI, M, .inl (fun _ => 0)))]
theorem qb_rows_len (cI : ClassId) (M q : Nat) : ∀ i, (qb_rows cI M q i).length = i
  | 0 => rfl
  | i + 1 => by rw [qb_rows, List.length_append, qb_rows_len cI M q i]; rfl
theorem qb_rows_at (cI : ClassId) (M q : Nat) : ∀ (N k : Nat) (x : Nat × va_E), (qb_rows cI M q N)[k]? = some x → k < N ∧ x = (q + 1 + k, .inl (cI, M, .inl (fun _ => 0)))
  | 0, k, x, h => by cases h
  | N + 1, k, x, h => by
    have hl := qb_rows_len cI M q N
    rw [qb_rows] at h
    by_cases hk : k < N
    · rw [List.getElem?_append_left (by omega)] at h
      obtain ⟨h1, h2⟩ := qb_rows_at cI M q N k x h
      exact ⟨by omega, h2⟩
    · rw [List.getElem?_append_right (by omega)] at h
      have hz : k - (qb_rows cI M q N).length < 1 := (List.getElem?_eq_some_iff.mp h).1
      have e : k = N := by omega
      subst e
      rw [hl, Nat.sub_self] at h
      cases h
      exact ⟨by omega, rfl⟩
theorem qb_grid (hexec : p.tables.exec = Jvm.exec) (hb : c.code = cc) {own : String} {index N M : Nat} {cA cI : ClassId} (hown : s.vm.findClass own = some m.cls) (hlink : (Cond.classLink own index "[[I").before args s = true) (hAA : qg_AA cA cI s) (hN : N ≤ 1000) (hM : M ≤ 1000) (hcells : cells + (1 + N) ≤ R.cells) (hslots : slots + (N + N * M) ≤ R.slots) (hP : va_P D cl ws H) (hD : va_D A ws) (hS : va_S A H0 H locs) (hA : ∀ q, H0.size ≤ q → A q) {x y : Int32} (hx : x = nI N) (hy : y = nI M) (hdg : decode cc pc = .ok (.multianewarray index 2, 4))
    (kk : ∀ (q : Nat) (H1 : Heap) (locs1 : List Loc), va_P D cl (ws ++ ([(q, .inl (cA, N, .inr (.inr (.inr (.inr (fun j => some (q + 1 + j)))))))] ++ qb_rows cI M q N)) H1 → va_D A (ws ++ ([(q, .inl (cA, N, .inr (.inr (.inr (.inr (fun j => some (q + 1 + j)))))))] ++ qb_rows cI M q N)) → va_S A H0 H1 locs1 → W p l e R s m args below meth c H1 locs1 (cells + 1 + N) (slots + N + N * M) Q (F0 m (pc + 4) ls (.ref q :: rest))) : W p l e R s m args below meth c H locs cells slots Q (F0 m pc ls (.int y :: .int x :: rest)) := by
  subst hx; subst hy
  refine qg_row hexec hb hown hlink hAA hN hM hcells hslots hdg (fun H1 L h1 h2 h3 h4 h5 => ?_)
  have hS1 := hS.1
  have hlt : ∀ (k : Nat) (x : Nat × va_E), ws[k]? = some x → x.1 < H.size := fun k x hk => (hP k x hk).lt
  have key : ∀ (k : Nat) (x : Nat × va_E), ([(H.size, .inl (cA, N, .inr (.inr (.inr (.inr (fun j => some (H.size + 1 + j)))))))] ++ qb_rows cI M H.size N : va_W)[k]? = some x → x.1 = H.size + k ∧ va_at D cl x H1 := by
    intro k x hk
    match k, hk with
    | 0, hk =>
      cases hk
      refine ⟨rfl, ?_⟩
      show H1[H.size]? = some (vp_cell _ _)
      dsimp only
      rw [h3, vp_cell_q]
      refine congrArg some (qb_arrV_c (fun j hj => ?_))
      show qg_f H.size N j = .ref (H.size + 1 + j)
      unfold qg_f
      rw [if_pos hj]
    | k + 1, hk =>
      obtain ⟨a1, a2⟩ := qb_rows_at cI M H.size N k x hk
      subst a2
      refine ⟨by show H.size + 1 + k = H.size + (k + 1); omega, ?_⟩
      show H1[H.size + 1 + k]? = some (vp_cell _ _)
      rw [h4 k a1]
      rfl
  refine kk H.size H1 (locs ++ L) ((hP.kept (fun k x hk => h2 x.1 (hlt k x hk))).app (fun k x hk => (key k x hk).2)) ⟨fun i j x y hi hj hxy => ?_, fun k x hk => ?_⟩ ⟨by omega, fun q a1 a2 => (h2 q (by omega)).trans (hS.2.1 q a1 a2), fun q hq => ?_⟩
  · by_cases ei : i < ws.length
    · rw [List.getElem?_append_left ei] at hi
      by_cases ej : j < ws.length
      · rw [List.getElem?_append_left ej] at hj
        exact hD.1 i j x y hi hj hxy
      · rw [List.getElem?_append_right (by omega)] at hj
        have := (key _ _ hj).1
        have := hlt i x hi
        omega
    · rw [List.getElem?_append_right (by omega)] at hi
      have b1 := (key _ _ hi).1
      by_cases ej : j < ws.length
      · rw [List.getElem?_append_left ej] at hj
        have := hlt j y hj
        omega
      · rw [List.getElem?_append_right (by omega)] at hj
        have b2 := (key _ _ hj).1
        omega
  · by_cases ek : k < ws.length
    · rw [List.getElem?_append_left ek] at hk
      exact hD.2 k x hk
    · rw [List.getElem?_append_right (by omega)] at hk
      rw [(key _ _ hk).1]
      exact hA _ (by omega)
  · rcases List.mem_append.mp hq with h | h
    · exact hS.2.2 q h
    · rw [h5 q h]; exact hA _ hS1
end QBT
/-- the private constructors, called by their nest mate -/
def qb_nw : List (String × Nat × MethodName × String) := [(RX4, 11, yX0_init, "QuestionLadder"), (RX4, 25, yX1_init, "QuestionLadder"), (RX4, 32, yX3_init, "QuestionLadder")]
def qb_NW (U : State) : Prop := ∀ z ∈ qb_nw, va_Nw (.methodLinkNest z.1 z.2.1 z.2.2.1 z.2.2.2) U
theorem qb_NW.same {u U : State} (h : u.vm = U.vm) (hz : qb_NW u) : qb_NW U := fun z hm => va_Nw.same rfl h (hz z hm)
theorem qb_NW.warm {s U : State} (hW : s.WarmedH U.vm) (hz : qb_NW s) : qb_NW U := fun z hm => va_Nw.warmM hW (hz z hm)
/-- the array classes: ints, booleans, rows of ints -/
abbrev qb_Y (cI cZ cA : ClassId) : List (ClassId × FieldType) := [(cI, .int), (cZ, .boolean), (cA, .array .int)]
def qb_Pc (D : va_G) (cI cZ cA : ClassId) (w : va_W) (sz : Nat) (U : State) : Prop := U.heap.size = sz ∧ va_P D vwCl w U.heap ∧ va_K D vwCl (qb_Y cI cZ cA) U ∧ va_D (fun _ => True) w ∧ qg_AA cA cI U ∧ qb_NW U
theorem qb_blind {as : List Value} {D : va_G} {cI cZ cA : ClassId} {w : va_W} {sz : Nat} : FrameBlind (va_Pc as (qb_Pc D cI cZ cA w sz)) := fun a U gg mk q => by
  obtain ⟨q0, q1, qP, qK, qD, qA, qN⟩ := q
  exact ⟨q0, q1, qP, va_K.moved (u := U) (U := U.calling gg mk a) (Vm.Alike.refl U.vm) qK, qD, qA.moved (u := U) (U := U.calling gg mk a) (Vm.Alike.refl U.vm), qb_NW.same rfl qN⟩
def qb_Qc (D : va_G) (w0 : va_W) (wf : (Nat → Nat) → va_W) (sz : Nat) : Array Value → State → Outcome → State → Prop := va_Qv (fun _ : Nat → Nat => True) (fun a t => va_P D vwCl (wf a) t.heap ∧ va_D (va_A w0 sz) (wf a)) (va_A w0 sz)
