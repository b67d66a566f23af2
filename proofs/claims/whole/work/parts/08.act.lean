/-! The machine's step and the JVM's. -/
section QAC
variable {p : Program} {l : Launch} {e : Env} {R : Room} {s : State} {m : MethodId} {args : Array Value} {below : List Frame} {meth : Method} {cd : Code} {cells slots : Nat} {Q : State → Prop}
variable {D : va_G} {g : q_G} {A : Nat → Prop} {H0 : Heap} {X : q_X} {mi : Nat}
/-- what stays through a method's run -/
def q_Cx (p : Program) (s : State) (m : MethodId) (args : Array Value) (cd : Code) (D : va_G) (g : q_G) (A : Nat → Prop) (H0 : Heap) (X : q_X) (mi : Nat) : Prop :=
  p.tables.exec = Jvm.exec ∧ cd.code = q_by mi ∧ cd.maxLocals = q_mx mi ∧ s.vm.findClass (q_R (q_oc mi)) = some m.cls ∧ (∀ w ∈ wsL_law, w.before args s = true) ∧ va_K D vwCl (q_Y g) s ∧ (∀ M, va_D A (q_W g M)) ∧
  (mi = 112 → va_X (g.1 49) X.2 X.1 s H0 ∧ g.1 49 < H0.size ∧ ¬ A (g.1 49))
/-- a state of the machine stands -/
def q_At (s : State) (D : va_G) (g : q_G) (A : Nat → Prop) (H0 : Heap) (mi : Nat) (ls : q_L) (M : q_M) (H : Heap) (locs : List Loc) (cls : Array Slot) : Prop :=
  va_P D vwCl (q_W g M) H ∧ va_S A H0 H locs ∧ q_LS g.1 (q_mx mi) ls cls
theorem q_st1 {ad : Nat → Nat} {nL k : Nat} {ls : q_L} {cls : Array Slot} (h : q_LS ad nL ls cls) : ∃ l, lv_has cls nL l ∧ ∀ i v, q_ld ls i = some v → (i, q_v ad v) ∈ l := h
theorem q_rst {st : List Value} (ad : Nat → Nat) (h : Nat.ble st.length 4 = true) : ((st.map (q_v ad)).map fun v => v.category).sum ≤ 8 := by
  have h4 := Nat.ble_eq.mp h
  have key : ∀ l : List Value, (l.map fun v => v.category).sum ≤ 2 * l.length := by
    intro l
    induction l with
    | nil => simp
    | cons v t ih =>
      have : v.category ≤ 2 := by rcases lv_cat v with h | h <;> omega
      simp only [List.map_cons, List.sum_cons, List.length_cons]
      omega
  have := key (st.map (q_v ad))
  rw [List.length_map] at this
  omega
/-- what a call is -/
def q_CI (mi pc : Nat) (ls : q_L) (st : List Value) (M : q_M) (mj : Nat) (as : List Value) (c' : q_F) : Prop :=
  (∃ (k : Nat) (nb : Bool) (r : Nat) (rest : List Value), decode (q_by mi) pc = .ok (.invokevirtual k, 3) ∧ q_ml (q_oc mi) k = some (mj, nb) ∧ q_st mj = false ∧ st.drop (q_np mj) = .ref r :: rest ∧ (q_kd r).1 = 0 ∧ (q_kd r).2.1 = q_oc mj ∧ Nat.ble rest.length 4 = true ∧ as = .ref r :: (st.take (q_np mj)).reverse ∧ c' = (pc + 3, ls, rest, M)) ∨
  (∃ (k : Nat) (nb : Bool), decode (q_by mi) pc = .ok (.invokestatic k, 3) ∧ q_ml (q_oc mi) k = some (mj, nb) ∧ mj ≠ 200 ∧ mj ≠ 201 ∧ q_st mj = true ∧ q_np mj ≤ st.length ∧ Nat.ble (st.length - q_np mj) 4 = true ∧ as = (st.take (q_np mj)).reverse ∧ c' = (pc + 3, ls, st.drop (q_np mj), M))
/-- what an end is -/
def q_RI (mi pc : Nat) (st : List Value) (r : Option Value) : Prop :=
  (∃ x : Int32, decode (q_by mi) pc = .ok (.ireturn, 1) ∧ st = [.int x] ∧ r = some (.int x) ∧ (q_rk mi = 0 ∨ (q_rk mi = 1 ∧ (x = 0 ∨ x = 1)))) ∨
  (∃ x : Int64, decode (q_by mi) pc = .ok (.lreturn, 1) ∧ st = [.long x] ∧ r = some (.long x) ∧ q_rk mi = 2) ∨
  (∃ x : Nat, decode (q_by mi) pc = .ok (.areturn, 1) ∧ st = [.ref x] ∧ r = some (.ref x) ∧ q_rk mi = 4) ∨
  (decode (q_by mi) pc = .ok (.return_, 1) ∧ st = [] ∧ r = none ∧ q_rk mi = 3)
set_option maxHeartbeats 4000000 in
/-- an instruction -/
theorem q_step (hC : q_Cx p s m args cd D g A H0 X mi) (hRf : 1 ≤ R.frames) (hRl : 64 ≤ R.locals) (hRc : cells ≤ R.cells) (hRs : slots ≤ R.slots) {pc : Nat} {ls : q_L} {st : List Value} {M : q_M} {a : q_A} (ha : q_act X mi (pc, ls, st, M) = some a) {H : Heap} {locs : List Loc} {cls : Array Slot} (hA : q_At s D g A H0 mi ls M H locs cls)
    (hk : ∀ c', a = .inl c' → ∀ H1 locs1 cls1, q_At s D g A H0 mi c'.2.1 c'.2.2.2 H1 locs1 cls1 → W p l e R s m args below meth cd H1 locs1 cells slots Q (F0 m c'.1 cls1 (c'.2.2.1.map (q_v g.1))))
    (hcall : ∀ mj as c', a = .inr (.inl (mj, as, c')) → q_CI mi pc ls st M mj as c' → W p l e R s m args below meth cd H locs cells slots Q (F0 m pc cls (st.map (q_v g.1))))
    (hret : ∀ r, a = .inr (.inr r) → q_RI mi pc st r → W p l e R s m args below meth cd H locs cells slots Q (F0 m pc cls (st.map (q_v g.1)))) :
    W p l e R s m args below meth cd H locs cells slots Q (F0 m pc cls (st.map (q_v g.1))) := by
  obtain ⟨hx, hb, hml, hown, hts, hK, hD, hX⟩ := hC
  obtain ⟨hP, hS, hl⟩ := hA
  have hDM := hD M
  cases hcd : q_cd mi pc with
  | none => simp only [q_act, hcd] at ha; cases ha
  | some x =>
    obtain ⟨i, ex⟩ := x
    obtain ⟨hmi, hok⟩ := q_ok hcd
    simp only [q_act, hcd] at ha
    have hok2 := hok
    unfold q_okb at hok2
    have hdg : decode (q_by mi) pc = .ok (i, q_ln i ex) := by
      simp only [Bool.and_eq_true, decide_eq_true_eq] at hok2
      exact hok2.1
    have hz := (Bool.and_eq_true _ _ ▸ hok2).2
    clear hok2 hok
    cases i with
    | iconst n => cases ha; exact lv_iconst hx hb hdg rfl (hk _ rfl _ _ _ ⟨hP, hS, hl⟩)
    | bipush n => cases ha; exact lv_bipush hx hb hdg rfl (hk _ rfl _ _ _ ⟨hP, hS, hl⟩)
    | sipush n => cases ha; exact lv_sipush hx hb hdg rfl (hk _ rfl _ _ _ ⟨hP, hS, hl⟩)
    | lconst n => cases ha; exact lv_lconst hx hb hdg rfl (hk _ rfl _ _ _ ⟨hP, hS, hl⟩)
    | ldc k =>
      dsimp only at ha hz
      split at ha
      · rename_i v hv
        rw [hv] at hz
        cases ha
        exact lv_ldc hx hb hown (hts _ (q_mem hz)) hdg (hk _ rfl _ _ _ ⟨hP, hS, hl⟩)
      · cases ha
    | ldc_w k =>
      dsimp only at ha hz
      split at ha
      · rename_i v hv
        rw [hv] at hz
        cases ha
        exact lv_ldcw hx hb hown (hts _ (q_mem hz)) hdg (hk _ rfl _ _ _ ⟨hP, hS, hl⟩)
      · cases ha
    | ldc2_w k =>
      dsimp only at ha hz
      split at ha
      · rename_i v hv
        rw [hv] at hz
        cases ha
        exact lv_ldc2 hx hb hown (hts _ (q_mem hz)) hdg (hk _ rfl _ _ _ ⟨hP, hS, hl⟩)
      · cases ha
    | iload k =>
      dsimp only at ha
      split at ha
      · rename_i x hv
        cases ha
        exact lv_iload hx hb hdg (q_lds hl hv) (hk _ rfl _ _ _ ⟨hP, hS, hl⟩)
      · cases ha
    | iload_n k =>
      dsimp only at ha
      split at ha
      · rename_i x hv
        cases ha
        exact lv_iload_n hx hb hdg rfl (q_lds hl hv) (hk _ rfl _ _ _ ⟨hP, hS, hl⟩)
      · cases ha
    | lload k =>
      dsimp only at ha
      split at ha
      · rename_i x hv
        cases ha
        exact lv_lload hx hb hdg (q_lds hl hv) (hk _ rfl _ _ _ ⟨hP, hS, hl⟩)
      · cases ha
    | lload_n k =>
      dsimp only at ha
      split at ha
      · rename_i x hv
        cases ha
        exact lv_lload_n hx hb hdg rfl (q_lds hl hv) (hk _ rfl _ _ _ ⟨hP, hS, hl⟩)
      · cases ha
    | aload k =>
      dsimp only at ha
      split at ha
      · rename_i x hv
        cases ha
        exact lv_aload hx hb hdg (q_lds hl hv) (hk _ rfl _ _ _ ⟨hP, hS, hl⟩)
      · cases ha
    | aload_n k =>
      dsimp only at ha
      split at ha
      · rename_i x hv
        cases ha
        exact lv_aload_n hx hb hdg rfl (q_lds hl hv) (hk _ rfl _ _ _ ⟨hP, hS, hl⟩)
      · cases ha
    | istore k =>
      dsimp only at ha hz
      split at ha
      · cases ha
        obtain ⟨l0, h1, h2⟩ := hl
        exact lv_istore hx hb hdg h1 (by simpa [Nat.blt_eq] using hz) rfl (fun cls1 h3 => hk _ rfl _ _ _ ⟨hP, hS, q_LS1 h2 h3⟩)
      · cases ha
    | istore_n k =>
      dsimp only at ha hz
      split at ha
      · cases ha
        obtain ⟨l0, h1, h2⟩ := hl
        exact lv_istore_n hx hb hdg rfl h1 (by simpa [Nat.blt_eq] using hz) rfl (fun cls1 h3 => hk _ rfl _ _ _ ⟨hP, hS, q_LS1 h2 h3⟩)
      · cases ha
    | lstore k =>
      dsimp only at ha hz
      split at ha
      · cases ha
        obtain ⟨l0, h1, h2⟩ := hl
        exact lv_lstore hx hb hdg h1 (by simpa [Nat.blt_eq] using hz) rfl (fun cls1 h3 => hk _ rfl _ _ _ ⟨hP, hS, q_LS2 h2 h3⟩)
      · cases ha
    | lstore_n k =>
      dsimp only at ha hz
      split at ha
      · cases ha
        obtain ⟨l0, h1, h2⟩ := hl
        exact lv_lstore_n hx hb hdg rfl h1 (by simpa [Nat.blt_eq] using hz) rfl (fun cls1 h3 => hk _ rfl _ _ _ ⟨hP, hS, q_LS2 h2 h3⟩)
      · cases ha
    | astore k =>
      dsimp only at ha hz
      split at ha
      · cases ha
        obtain ⟨l0, h1, h2⟩ := hl
        exact lv_astore hx hb hdg h1 (by simpa [Nat.blt_eq] using hz) rfl (fun cls1 h3 => hk _ rfl _ _ _ ⟨hP, hS, q_LS1 h2 h3⟩)
      · cases ha
    | astore_n k =>
      dsimp only at ha hz
      split at ha
      · cases ha
        obtain ⟨l0, h1, h2⟩ := hl
        exact lv_astore_n hx hb hdg rfl h1 (by simpa [Nat.blt_eq] using hz) rfl (fun cls1 h3 => hk _ rfl _ _ _ ⟨hP, hS, q_LS1 h2 h3⟩)
      · cases ha
    | iinc k n =>
      dsimp only at ha hz
      split at ha
      · rename_i x hv
        cases ha
        obtain ⟨l0, h1, h2⟩ := hl
        obtain ⟨j, hj⟩ := List.getElem?_of_mem (h2 _ _ hv)
        exact lv_iinc hx hb hdg h1 hj rfl (by simpa [Nat.blt_eq] using hz) rfl (fun cls1 h3 => hk _ rfl _ _ _ ⟨hP, hS, q_LS1 h2 h3⟩)
      · cases ha
    | iadd =>
      dsimp only at ha
      split at ha
      · cases ha; exact lv_iadd hx hb hdg (hk _ rfl _ _ _ ⟨hP, hS, hl⟩)
      · cases ha
    | isub =>
      dsimp only at ha
      split at ha
      · cases ha; exact lv_isub hx hb hdg (hk _ rfl _ _ _ ⟨hP, hS, hl⟩)
      · cases ha
    | imul =>
      dsimp only at ha
      split at ha
      · cases ha; exact lv_imul hx hb hdg (hk _ rfl _ _ _ ⟨hP, hS, hl⟩)
      · cases ha
    | idiv =>
      dsimp only at ha
      split at ha
      · split at ha
        · cases ha
        · rename_i hne
          cases ha; exact lv_idiv hx hb hdg hne (hk _ rfl _ _ _ ⟨hP, hS, hl⟩)
      · cases ha
    | irem =>
      dsimp only at ha
      split at ha
      · split at ha
        · cases ha
        · rename_i hne
          cases ha; exact lv_irem hx hb hdg hne (hk _ rfl _ _ _ ⟨hP, hS, hl⟩)
      · cases ha
    | ineg =>
      dsimp only at ha
      split at ha
      · cases ha; exact lv_ineg hx hb hdg (hk _ rfl _ _ _ ⟨hP, hS, hl⟩)
      · cases ha
    | iand =>
      dsimp only at ha
      split at ha
      · cases ha; exact lv_iand hx hb hdg (hk _ rfl _ _ _ ⟨hP, hS, hl⟩)
      · cases ha
    | ior =>
      dsimp only at ha
      split at ha
      · cases ha; exact lv_ior hx hb hdg (hk _ rfl _ _ _ ⟨hP, hS, hl⟩)
      · cases ha
    | ixor =>
      dsimp only at ha
      split at ha
      · cases ha; exact lv_ixor hx hb hdg (hk _ rfl _ _ _ ⟨hP, hS, hl⟩)
      · cases ha
    | ishl =>
      dsimp only at ha
      split at ha
      · cases ha; exact lv_ishl hx hb hdg (hk _ rfl _ _ _ ⟨hP, hS, hl⟩)
      · cases ha
    | ishr =>
      dsimp only at ha
      split at ha
      · cases ha; exact lv_ishr hx hb hdg (hk _ rfl _ _ _ ⟨hP, hS, hl⟩)
      · cases ha
    | iushr =>
      dsimp only at ha
      split at ha
      · cases ha; exact lv_iushr hx hb hdg rfl (hk _ rfl _ _ _ ⟨hP, hS, hl⟩)
      · cases ha
    | ladd =>
      dsimp only at ha
      split at ha
      · cases ha; exact lv_ladd hx hb hdg (hk _ rfl _ _ _ ⟨hP, hS, hl⟩)
      · cases ha
    | lmul =>
      dsimp only at ha
      split at ha
      · cases ha; exact lv_lmul hx hb hdg (hk _ rfl _ _ _ ⟨hP, hS, hl⟩)
      · cases ha
    | ldiv =>
      dsimp only at ha
      split at ha
      · split at ha
        · cases ha
        · rename_i hne
          cases ha; exact lv_ldiv hx hb hdg hne (hk _ rfl _ _ _ ⟨hP, hS, hl⟩)
      · cases ha
    | lrem =>
      dsimp only at ha
      split at ha
      · split at ha
        · cases ha
        · rename_i hne
          cases ha; exact lv_lrem hx hb hdg hne (hk _ rfl _ _ _ ⟨hP, hS, hl⟩)
      · cases ha
    | lcmp =>
      dsimp only at ha
      split at ha
      · cases ha; exact W.lcmp hx hb hdg (hk _ rfl _ _ _ ⟨hP, hS, hl⟩)
      · cases ha
    | i2l =>
      dsimp only at ha
      split at ha
      · cases ha; exact lv_i2l hx hb hdg rfl (hk _ rfl _ _ _ ⟨hP, hS, hl⟩)
      · cases ha
    | l2i =>
      dsimp only at ha
      split at ha
      · cases ha; exact lv_l2i hx hb hdg rfl (hk _ rfl _ _ _ ⟨hP, hS, hl⟩)
      · cases ha
    | dup =>
      dsimp only at ha
      split at ha
      · cases ha; exact lv_dup hx hb hdg rfl (hk _ rfl _ _ _ ⟨hP, hS, hl⟩)
      · cases ha; exact lv_dup hx hb hdg rfl (hk _ rfl _ _ _ ⟨hP, hS, hl⟩)
      · cases ha
    | dup2 =>
      dsimp only at ha
      split at ha
      · cases ha; exact lv_dup2_11 hx hb hdg rfl rfl (hk _ rfl _ _ _ ⟨hP, hS, hl⟩)
      · cases ha
    | goto o =>
      dsimp only at ha hz
      cases ha
      exact lv_goto hx hb hdg (of_decide_eq_true hz) (hk _ rfl _ _ _ ⟨hP, hS, hl⟩)
    | ifCond c o =>
      dsimp only at ha hz
      split at ha
      · rename_i x st'
        have ht := of_decide_eq_true hz
        have h1 : q_c1 c x = true → a = .inl (ex, ls, st', M) := fun h => by rw [h] at ha; cases ha; rfl
        have h2 : q_c1 c x = false → a = .inl (pc + 3, ls, st', M) := fun h => by rw [h] at ha; cases ha; rfl
        have k1 : q_c1 c x = true → W p l e R s m args below meth cd H locs cells slots Q (F0 m ex cls (st'.map (q_v g.1))) := fun h => by
          have := h1 h; subst this; exact hk _ rfl _ _ _ ⟨hP, hS, hl⟩
        have k2 : q_c1 c x = false → W p l e R s m args below meth cd H locs cells slots Q (F0 m (pc + 3) cls (st'.map (q_v g.1))) := fun h => by
          have := h2 h; subst this; exact hk _ rfl _ _ _ ⟨hP, hS, hl⟩
        cases c with
        | eq => exact lv_if_eq hx hb hdg ht (fun h => k1 (decide_eq_true h)) (fun h => k2 (decide_eq_false h))
        | ne => exact lv_if_ne hx hb hdg ht (fun h => k1 (decide_eq_true h)) (fun h => k2 (decide_eq_false (fun z => z h)))
        | lt => exact lv_if_lt hx hb hdg ht (fun h => k1 (decide_eq_true h)) (fun h => k2 (decide_eq_false h))
        | ge => exact lv_if_ge hx hb hdg ht (fun h => k1 (decide_eq_true h)) (fun h => k2 (decide_eq_false h))
        | gt => exact lv_if_gt hx hb hdg ht (fun h => k1 (decide_eq_true h)) (fun h => k2 (decide_eq_false h))
        | le => exact lv_if_le hx hb hdg ht (fun h => k1 (decide_eq_true h)) (fun h => k2 (decide_eq_false h))
      · cases ha
    | if_icmp c o =>
      dsimp only at ha hz
      split at ha
      · rename_i y x st'
        have ht := of_decide_eq_true hz
        have h1 : q_c2 c x y = true → a = .inl (ex, ls, st', M) := fun h => by rw [h] at ha; cases ha; rfl
        have h2 : q_c2 c x y = false → a = .inl (pc + 3, ls, st', M) := fun h => by rw [h] at ha; cases ha; rfl
        have k1 : q_c2 c x y = true → W p l e R s m args below meth cd H locs cells slots Q (F0 m ex cls (st'.map (q_v g.1))) := fun h => by
          have := h1 h; subst this; exact hk _ rfl _ _ _ ⟨hP, hS, hl⟩
        have k2 : q_c2 c x y = false → W p l e R s m args below meth cd H locs cells slots Q (F0 m (pc + 3) cls (st'.map (q_v g.1))) := fun h => by
          have := h2 h; subst this; exact hk _ rfl _ _ _ ⟨hP, hS, hl⟩
        cases c with
        | eq => exact lv_icmp_eq hx hb hdg ht (fun h => k1 (decide_eq_true h)) (fun h => k2 (decide_eq_false h))
        | ne => exact lv_icmp_ne hx hb hdg ht (fun h => k1 (decide_eq_true h)) (fun h => k2 (decide_eq_false (fun z => z h)))
        | lt => exact lv_icmp_lt hx hb hdg ht (fun h => k1 (decide_eq_true h)) (fun h => k2 (decide_eq_false h))
        | ge => exact lv_icmp_ge hx hb hdg ht (fun h => k1 (decide_eq_true h)) (fun h => k2 (decide_eq_false h))
        | gt => exact lv_icmp_gt hx hb hdg ht (fun h => k1 (decide_eq_true h)) (fun h => k2 (decide_eq_false h))
        | le => exact lv_icmp_le hx hb hdg ht (fun h => k1 (decide_eq_true h)) (fun h => k2 (decide_eq_false h))
      · cases ha
    | tableswitch d lo hi os =>
      dsimp only at ha hz
      split at ha
      · rename_i x st'
        simp only [Bool.and_eq_true, decide_eq_true_eq] at hz
        obtain ⟨⟨z1, z2⟩, z3⟩ := hz
        cases ha
        by_cases h : x.toInt < lo ∨ hi < x.toInt
        · refine lv_tableOut hx hb hdg h (tgt := ((pc : Int) + d).toNat) (Int.toNat_of_nonneg z1).symm ?_
          have e : q_sw pc d lo hi os x.toInt = ((pc : Int) + d).toNat := if_pos h
          have := hk _ rfl _ _ _ ⟨hP, hS, hl⟩
          rw [e] at this
          exact this
        · have h1 : ¬ x.toInt < lo := fun z => h (Or.inl z)
          have h2 : ¬ hi < x.toInt := fun z => h (Or.inr z)
          have hlt : (x.toInt - lo).toNat < os.size := by omega
          have hg : os[(x.toInt - lo).toNat]? = some os[(x.toInt - lo).toNat] := Array.getElem?_eq_getElem hlt
          have hnn : 0 ≤ (pc : Int) + os[(x.toInt - lo).toNat] := by
            have := (Array.all_eq_true.mp z2) _ hlt
            exact of_decide_eq_true this
          refine lv_tableIn hx hb hdg h1 h2 hg (tgt := ((pc : Int) + os[(x.toInt - lo).toNat]).toNat) (Int.toNat_of_nonneg hnn).symm ?_
          have e : q_sw pc d lo hi os x.toInt = ((pc : Int) + os[(x.toInt - lo).toNat]).toNat := by
            unfold q_sw
            rw [if_neg h]
            simp [Array.getD, hlt]
          have := hk _ rfl _ _ _ ⟨hP, hS, hl⟩
          rw [e] at this
          exact this
      · cases ha
    | getfield k =>
      dsimp only at ha
      split at ha
      · split at ha
        · rename_i r st' y c f hf
          obtain ⟨v, e1, e2⟩ := q_step_gf (p := p) (l := l) (e := e) (R := R) (s := s) (m := m) (args := args) (below := below) (meth := meth) (cd := cd) (H := H) (locs := locs) (cells := cells) (slots := slots) (Q := Q) (D := D) (cls := cls) hx hb hts hown hK hP hdg hf ha
          cases e1
          exact e2 (hk _ rfl _ _ _ ⟨hP, hS, hl⟩)
        · cases ha
      · cases ha
    | putfield k =>
      dsimp only at ha
      split at ha
      · split at ha
        · rename_i w r st' y c f hf
          obtain ⟨M', e1, e2⟩ := q_step_pf (p := p) (l := l) (e := e) (R := R) (s := s) (m := m) (args := args) (below := below) (meth := meth) (cd := cd) (H := H) (locs := locs) (cells := cells) (slots := slots) (Q := Q) (D := D) (cls := cls) hx hb hts hown hK hP hDM hS hdg hf ha
          cases e1
          exact e2 (fun H1 locs1 h1 h2 => hk _ rfl _ _ _ ⟨h1, h2, hl⟩)
        · cases ha
      · cases ha
    | iaload =>
      dsimp only at ha
      split at ha
      · rename_i x r st'
        split at ha
        · rename_i h0
          cases ho : q_outD x (q_kd r).2.1 with
          | true => rw [ho] at ha; cases ha
          | false =>
            rw [ho] at ha
            cases ha
            exact va_iald hx hb hK hP r 0 (q_ia h0) rfl (q_in_of ho) hdg (hk _ rfl _ _ _ ⟨hP, hS, hl⟩)
        · rename_i h0
          cases ho : (q_outD x X.2 || !Nat.beq mi 112) with
          | true => rw [ho] at ha; cases ha
          | false =>
            rw [ho] at ha
            cases ha
            simp only [Bool.or_eq_false_iff, Bool.not_eq_false', Nat.beq_eq] at ho
            obtain ⟨x1, x2, x3⟩ := hX ho.2
            have hr := q_kd4 h0
            subst hr
            exact va_sld hx hb x1 x2 x3 hS (q_in_of ho.1) hdg (hk _ rfl _ _ _ ⟨hP, hS, hl⟩)
        · cases ha
      · cases ha
    | baload =>
      dsimp only at ha
      split at ha
      · rename_i x r st'
        split at ha
        · rename_i h0
          cases ho : q_outD x (q_kd r).2.1 with
          | true => rw [ho] at ha; cases ha
          | false =>
            rw [ho] at ha
            cases ha
            exact va_zald hx hb hK hP r 1 (q_za h0) rfl (q_in_of ho) hdg (hk _ rfl _ _ _ ⟨hP, hS, hl⟩)
        · cases ha
      · cases ha
    | aaload =>
      dsimp only at ha
      split at ha
      · rename_i x r st'
        split at ha
        · rename_i h0
          cases ho : q_outD x (q_kd r).2.1 with
          | true => rw [ho] at ha; cases ha
          | false =>
            rw [ho] at ha
            cases ha
            have hin := q_in_of ho
            have hlt : x.toNatClampNeg < (q_kd r).2.1 := Nat.not_le.mp fun q => hin (Or.inr q)
            exact W.aald (v := va_rf (some (g.1 ((q_kd r).2.2 + x.toNatClampNeg)))) (ty := .array .int) hx hb (hP r _ (q_ra h0)) ((hK.2 2 _ rfl).1 _ (fun j => va_rf (some (g.1 ((q_kd r).2.2 + j))))) rfl (fun q => by cases q) (by show ¬ (x < 0 ∨ (arrV _ _ _).slots.size ≤ _); rw [arrV_size]; exact hin) (by show (arrV _ _ _).slots[_]? = _; rw [arrV_read _ _ hlt]) rfl rfl hdg (hk _ rfl _ _ _ ⟨hP, hS, hl⟩)
        · cases ha
      · cases ha
    | iastore =>
      dsimp only at ha
      split at ha
      · rename_i v x r st'
        split at ha
        · rename_i h0
          cases ho : q_outD x (q_kd r).2.1 with
          | true => rw [ho] at ha; cases ha
          | false =>
            rw [ho] at ha
            cases ha
            refine va_iast hx hb hK hP hDM hS r 0 (q_ia h0) rfl (q_in_of ho) hdg (fun H1 locs1 hP1 hD1 hS1 => ?_)
            rw [q_W_set (M' := q_up M r x.toNatClampNeg v) (q_kd49 (by rw [h0]; decide) (by rw [h0]; decide)) (by simp only [q_ce, h0, q_up_eq]) (fun j hj => q_ce_off (q_up_ne M _ _ hj) rfl)] at hP1
            exact hk _ rfl _ _ _ ⟨hP1, hS1, hl⟩
        · cases ha
      · cases ha
    | bastore =>
      dsimp only at ha
      split at ha
      · rename_i v x r st'
        split at ha
        · rename_i h0
          cases ho : q_outD x (q_kd r).2.1 with
          | true => rw [ho] at ha; cases ha
          | false =>
            rw [ho] at ha
            cases ha
            refine va_zast hx hb hK hP hDM hS r 1 (q_za h0) rfl (q_in_of ho) hdg (fun H1 locs1 hP1 hD1 hS1 => ?_)
            rw [q_W_set (M' := q_up M r x.toNatClampNeg (vp_nar .boolean v)) (q_kd49 (by rw [h0]; decide) (by rw [h0]; decide)) (by simp only [q_ce, h0, q_up_eq]) (fun j hj => q_ce_off (q_up_ne M _ _ hj) rfl)] at hP1
            exact hk _ rfl _ _ _ ⟨hP1, hS1, hl⟩
        · cases ha
      · cases ha
    | arraylength =>
      dsimp only at ha
      split at ha
      · rename_i r st'
        split at ha
        · rename_i h0
          cases ha
          exact va_alen hx hb hK hP r 0 (q_ia h0) rfl rfl hdg (hk _ rfl _ _ _ ⟨hP, hS, hl⟩)
        · rename_i h0
          cases ho : Nat.beq mi 112 with
          | false => rw [ho] at ha; cases ha
          | true =>
            rw [ho] at ha
            cases ha
            obtain ⟨x1, x2, x3⟩ := hX (Nat.beq_eq.mp ho)
            have hr := q_kd4 h0
            subst hr
            exact va_slen hx hb x1 x2 x3 hS hdg (hk _ rfl _ _ _ ⟨hP, hS, hl⟩)
        · cases ha
      · cases ha
    | invokevirtual k =>
      dsimp only at ha
      split at ha
      · rename_i mj nb hm
        cases hst : q_st mj with
        | true => rw [hst] at ha; cases ha
        | false =>
          rw [hst, cond_false] at ha
          unfold q_call at ha
          rw [hst, cond_false] at ha
          split at ha
          · rename_i r rest hd
            cases hb3 : (Nat.beq (q_kd r).1 0 && Nat.beq (q_kd r).2.1 (q_oc mj) && Nat.ble rest.length 4) with
            | false => rw [hb3] at ha; cases ha
            | true =>
              rw [hb3] at ha
              cases ha
              simp only [Bool.and_eq_true, Nat.beq_eq] at hb3
              exact hcall _ _ _ rfl (Or.inl ⟨k, nb, r, rest, hdg, hm, hst, hd, hb3.1.1, hb3.1.2, hb3.2, rfl, rfl⟩)
          · cases ha
      · cases ha
    | invokestatic k =>
      dsimp only at ha
      split at ha
      · rename_i mj nb hm
        have hlc := q_mlg hm
        simp only [q_lc, hm] at hlc
        split at ha
        · rename_i hm2
          simp only [show Nat.beq 200 200 = true from rfl, cond_true, Bool.and_eq_true] at hlc
          split at ha
          · rename_i y x st'
            cases h4 : Nat.ble st'.length 4 with
            | false => rw [h4] at ha; cases ha
            | true =>
              rw [h4] at ha
              cases ha
              refine va_mmin hx hb (by rw [hml]; exact hl.choose_spec.1.1.symm) hown (hts _ (q_mem hlc.1)) (hts _ q_wmin1) (hts _ q_wmin2) (hts _ q_wmin3) hRf ?_ hRc hRs hdg (hk _ rfl _ _ _ ⟨hP, hS, hl⟩)
              have := q_rst g.1 h4
              omega
          · cases ha
        · rename_i hm2
          split at ha
          · rename_i n dp b sp a st'
            cases h4 : (Nat.beq (q_kd a).1 1 && Nat.beq (q_kd b).1 1 && decide (¬ sp < 0) && decide (¬ dp < 0) && decide (¬ n < 0) && Nat.ble (sp.toNatClampNeg + n.toNatClampNeg) (q_kd a).2.1 && Nat.ble (dp.toNatClampNeg + n.toNatClampNeg) (q_kd b).2.1 && Nat.ble st'.length 4) with
            | false => rw [h4] at ha; cases ha
            | true =>
              rw [h4] at ha
              cases ha
              simp only [Bool.and_eq_true, Nat.beq_eq, decide_eq_true_eq, Nat.ble_eq] at h4
              obtain ⟨⟨⟨⟨⟨⟨⟨a1, a2⟩, a3⟩, a4⟩, a5⟩, a6⟩, a7⟩, a8⟩ := h4
              have hlc1 : q_has (q_mp (q_oc mi) k) (.methodLink (q_R (q_oc mi)) k arraycopyName) = true := by
                have := hlc
                simp only [show Nat.beq 201 200 = false from rfl, cond_false, show Nat.beq 201 201 = true from rfl, cond_true, Bool.and_eq_true] at this
                exact this.1
              refine va_copyi hx hb (by rw [hml]; exact hl.choose_spec.1.1.symm) hown (hts _ (q_mem hlc1)) (hts _ q_wac1) (hts _ q_wac2) (hts _ q_wac3) hK hP hDM hS a b 0 0 (q_ia a1) (q_ia a2) rfl rfl rfl a3 a4 a5 a6 a7 (fun i hi => rfl) hRf ?_ hdg (fun H1 locs1 hP1 hD1 hS1 => ?_)
              · have := q_rst g.1 (Nat.ble_eq.mpr a8)
                have h9 : nativeFrameWords "java/lang/System" "arraycopy" 5 + 11 ≤ 56 := by decide +kernel
                omega
              · rw [q_W_set (M' := q_cpy M a b sp.toNatClampNeg dp.toNatClampNeg n.toNatClampNeg) (q_kd49 (by rw [a2]; decide) (by rw [a2]; decide)) (by simp only [q_ce, a2, q_cpy, if_true]) (fun j hj => q_ce_off (if_neg hj) rfl)] at hP1
                exact hk _ rfl _ _ _ ⟨hP1, hS1, hl⟩
          · cases ha
        · rename_i n200 n201
          cases hst : q_st mj with
          | false => rw [hst] at ha; cases ha
          | true =>
            rw [hst, cond_true] at ha
            unfold q_call at ha
            rw [hst, cond_true] at ha
            cases hb3 : (Nat.ble (q_np mj) st.length && Nat.ble (st.length - q_np mj) 4) with
            | false => rw [hb3] at ha; cases ha
            | true =>
              rw [hb3] at ha
              cases ha
              simp only [Bool.and_eq_true] at hb3
              exact hcall _ _ _ rfl (Or.inr ⟨k, nb, hdg, hm, fun z => n200 z, fun z => n201 z, hst, Nat.ble_eq.mp hb3.1, hb3.2, rfl, rfl⟩)
      · cases ha
    | ireturn =>
      dsimp only at ha
      split at ha
      · split at ha
        · rename_i h0
          cases ha
          exact hret _ rfl (Or.inl ⟨_, hdg, rfl, rfl, Or.inl h0⟩)
        · rename_i h0
          split at ha
          · rename_i h01
            cases ha
            exact hret _ rfl (Or.inl ⟨_, hdg, rfl, rfl, Or.inr ⟨h0, h01⟩⟩)
          · cases ha
        · cases ha
      · cases ha
    | lreturn =>
      dsimp only at ha
      split at ha
      · cases hb3 : Nat.beq (q_rk mi) 2 with
        | false => rw [hb3] at ha; cases ha
        | true => rw [hb3] at ha; cases ha; exact hret _ rfl (Or.inr (Or.inl ⟨_, hdg, rfl, rfl, Nat.beq_eq.mp hb3⟩))
      · cases ha
    | areturn =>
      dsimp only at ha
      split at ha
      · cases hb3 : Nat.beq (q_rk mi) 4 with
        | false => rw [hb3] at ha; cases ha
        | true => rw [hb3] at ha; cases ha; exact hret _ rfl (Or.inr (Or.inr (Or.inl ⟨_, hdg, rfl, rfl, Nat.beq_eq.mp hb3⟩)))
      · cases ha
    | return_ =>
      dsimp only at ha
      split at ha
      · cases hb3 : Nat.beq (q_rk mi) 3 with
        | false => rw [hb3] at ha; cases ha
        | true => rw [hb3] at ha; cases ha; exact hret _ rfl (Or.inr (Or.inr (Or.inr ⟨hdg, rfl, rfl, Nat.beq_eq.mp hb3⟩)))
      · cases ha
    | _ => cases ha
end QAC
