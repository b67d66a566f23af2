/-! Runs of the machine, without the JVM. -/
/-- k instructions that go on, and one more -/
def q_go (X : q_X) (mi : Nat) : Nat → q_F → Option q_A
  | 0, c => q_act X mi c
  | k + 1, c => match q_act X mi c with
    | some (.inl c') => q_go X mi k c'
    | _ => none
def q_Ev (X : q_X) (d mi : Nat) (as : List Value) (M : q_M) (r : Option Value) (M' : q_M) : Prop := ∃ f0, ∀ G, f0 ≤ G → q_ex X d G mi as M = some (r, M')
def q_Rn (X : q_X) (d mi : Nat) (c : q_F) (r : Option Value) (M' : q_M) : Prop := ∃ f0, ∀ f G, f0 ≤ f → f0 ≤ G → q_run X (q_ex X d G) mi f c = some (r, M')
theorem q_Rn.nx {X : q_X} {d mi : Nat} {c c' : q_F} {r : Option Value} {M' : q_M} (h : q_act X mi c = some (.inl c')) (k : q_Rn X d mi c' r M') : q_Rn X d mi c r M' := by
  obtain ⟨f0, k⟩ := k
  refine ⟨f0 + 1, fun f G hf hG => ?_⟩
  obtain ⟨f, rfl⟩ : ∃ z, f = z + 1 := ⟨f - 1, by omega⟩
  rw [q_run, h]
  exact k f G (by omega) (by omega)
theorem q_Rn.gn {X : q_X} {d mi : Nat} (n : Nat) {c c' : q_F} {r : Option Value} {M' : q_M} (h : q_go X mi n c = some (.inl c')) (k : q_Rn X d mi c' r M') : q_Rn X d mi c r M' := by
  induction n generalizing c with
  | zero => exact q_Rn.nx h k
  | succ n ih =>
    rw [q_go] at h
    cases ha : q_act X mi c with
    | none => rw [ha] at h; cases h
    | some a =>
      rw [ha] at h
      cases a with
      | inl c2 => exact q_Rn.nx ha (ih h)
      | inr b => cases h
theorem q_Rn.gb {X : q_X} {d mi : Nat} (n : Nat) {c c1 c2 : q_F} {b : Bool} {r : Option Value} {M' : q_M} (h : q_go X mi n c = some (.inl (bif b then c1 else c2))) (k1 : b = true → q_Rn X d mi c1 r M') (k2 : b = false → q_Rn X d mi c2 r M') : q_Rn X d mi c r M' := by
  cases b with
  | true => exact q_Rn.gn n h (k1 rfl)
  | false => exact q_Rn.gn n h (k2 rfl)
theorem q_Rn.gd {X : q_X} {d mi : Nat} (n : Nat) (P : Prop) {hd : Decidable P} {c c1 c2 : q_F} {r : Option Value} {M' : q_M} (h : q_go X mi n c = some (.inl (bif (@decide P hd) then c1 else c2))) (k1 : P → q_Rn X d mi c1 r M') (k2 : ¬ P → q_Rn X d mi c2 r M') : q_Rn X d mi c r M' :=
  q_Rn.gb n h (fun z => k1 (of_decide_eq_true z)) (fun z => k2 (of_decide_eq_false z))
theorem q_Rn.gi {X : q_X} {d mi : Nat} (n : Nat) (P : Prop) {hd : Decidable P} {c c1 : q_F} {r : Option Value} {M' : q_M} (h : q_go X mi n c = (@ite _ P hd none (some (.inl c1)))) (hP : ¬ P) (k1 : q_Rn X d mi c1 r M') : q_Rn X d mi c r M' := by
  rw [if_neg hP] at h
  exact q_Rn.gn n h k1
theorem q_Rn.go {X : q_X} {d mi : Nat} (n : Nat) {b : Bool} {c c1 : q_F} {r : Option Value} {M' : q_M} (h : q_go X mi n c = (bif b then none else (some (.inl c1)))) (hb : b = false) (k1 : q_Rn X d mi c1 r M') : q_Rn X d mi c r M' := by
  rw [hb] at h
  exact q_Rn.gn n h k1
theorem q_Rn.rt {X : q_X} {d mi : Nat} {c : q_F} {r : Option Value} {M' : q_M} (h : q_act X mi c = some (.inr (.inr r))) (hM : c.2.2.2 = M') : q_Rn X d mi c r M' := by
  refine ⟨1, fun f G hf hG => ?_⟩
  obtain ⟨f, rfl⟩ : ∃ z, f = z + 1 := ⟨f - 1, by omega⟩
  rw [q_run, h, hM]
theorem q_Rn.cl {X : q_X} {d mi mj : Nat} {as : List Value} {c c' : q_F} {r r1 : Option Value} {M' M1 : q_M} (h : q_act X mi c = some (.inr (.inl (mj, as, c')))) (hE : q_Ev X d mj as c'.2.2.2 r1 M1) (k : q_Rn X d mi (c'.1, c'.2.1, r1.toList ++ c'.2.2.1, M1) r M') : q_Rn X d mi c r M' := by
  obtain ⟨f1, hE⟩ := hE
  obtain ⟨f0, k⟩ := k
  refine ⟨f0 + f1 + 1, fun f G hf hG => ?_⟩
  obtain ⟨f, rfl⟩ : ∃ z, f = z + 1 := ⟨f - 1, by omega⟩
  rw [q_run, h]
  dsimp only
  rw [hE G (by omega)]
  exact k f G (by omega) (by omega)
theorem q_Rn.gc {X : q_X} {d mi mj : Nat} (n : Nat) {as : List Value} {pc : Nat} {ls : q_L} {st : List Value} {M : q_M} {c : q_F} {r r1 : Option Value} {M' M1 : q_M} (h : q_go X mi n c = some (.inr (.inl (mj, as, (pc, ls, st, M))))) (hE : q_Ev X d mj as M r1 M1) (k : q_Rn X d mi (pc, ls, r1.toList ++ st, M1) r M') : q_Rn X d mi c r M' := by
  induction n generalizing c with
  | zero => exact q_Rn.cl h hE k
  | succ n ih =>
    rw [q_go] at h
    cases ha : q_act X mi c with
    | none => rw [ha] at h; cases h
    | some a =>
      rw [ha] at h
      cases a with
      | inl c2 => exact q_Rn.nx ha (ih h)
      | inr b => cases h
/-- an end that is an int, the store as it is -/
theorem q_Rn.gr {X : q_X} {d mi : Nat} (n : Nat) {c c' : q_F} {r r1 : Option Value} {M' : q_M} (h : q_go X mi n c = some (.inl c')) (h2 : q_act X mi c' = some (.inr (.inr r1))) (hr : r1 = r) (hM : c'.2.2.2 = M') : q_Rn X d mi c r M' :=
  q_Rn.gn n h (q_Rn.rt (hr ▸ h2) hM)
theorem q_Ev.of {X : q_X} {d mi : Nat} {as : List Value} {M : q_M} {r : Option Value} {M' : q_M} (hl : Nat.ble (q_as as).length (q_mx mi) = true) (k : q_Rn X d mi (0, q_en mi as, [], M) r M') : q_Ev X (d + 1) mi as M r M' := by
  obtain ⟨f0, k⟩ := k
  refine ⟨f0, fun G hG => ?_⟩
  rw [q_ex, hl, cond_true]
  exact k G G hG hG
theorem q_zret {X : q_X} {d mi : Nat} {pc : Nat} {ls : q_L} {M M' : q_M} {x : Int32} {r : Option Value} (h : q_cd mi pc = some (.ireturn, 0)) (hk : q_rk mi = 1) (h01 : x = 0 ∨ x = 1) (hr : some (.int x) = r) (hM : M = M') : q_Rn X d mi (pc, ls, [.int x], M) r M' := by
  refine q_Rn.rt (r := r) ?_ hM
  subst hr
  simp only [q_act, h, hk, if_pos h01]
/-- a load of ints -/
theorem q_ild {X : q_X} {d mi : Nat} {pc i n b : Nat} {ls : q_L} {st : List Value} {M M' : q_M} {x : Int32} {r : Nat} {res : Option Value} (h : q_cd mi pc = some (.iaload, 0)) (hk : q_kd r = (1, n, b)) (hx : x = nI i) (hi : i < n) (hn : n < 2 ^ 31) (k : q_Rn X d mi (pc + 1, ls, .int (M.1 r i) :: st, M) res M') : q_Rn X d mi (pc, ls, .int x :: .ref r :: st, M) res M' := by
  subst hx
  refine q_Rn.nx ?_ k
  have h1 : q_outD (nI i) n = false := by
    unfold q_outD
    rw [nI_clamp (Nat.lt_trans hi hn), decide_eq_false (nI_pos (Nat.lt_trans hi hn))]
    cases hz : Nat.ble n i with
    | false => rfl
    | true => exact absurd (Nat.ble_eq.mp hz) (by omega)
  simp only [q_act, h, hk, h1, cond_false, nI_clamp (Nat.lt_trans hi hn)]
  rfl
/-- a load of booleans -/
theorem q_zld {X : q_X} {d mi : Nat} {pc i n b : Nat} {ls : q_L} {st : List Value} {M M' : q_M} {x : Int32} {r : Nat} {res : Option Value} (h : q_cd mi pc = some (.baload, 0)) (hk : q_kd r = (2, n, b)) (hx : x = nI i) (hi : i < n) (hn : n < 2 ^ 31) (k : q_Rn X d mi (pc + 1, ls, .int (M.1 r i) :: st, M) res M') : q_Rn X d mi (pc, ls, .int x :: .ref r :: st, M) res M' := by
  subst hx
  refine q_Rn.nx ?_ k
  have h1 : q_outD (nI i) n = false := by
    unfold q_outD
    rw [nI_clamp (Nat.lt_trans hi hn), decide_eq_false (nI_pos (Nat.lt_trans hi hn))]
    cases hz : Nat.ble n i with
    | false => rfl
    | true => exact absurd (Nat.ble_eq.mp hz) (by omega)
  simp only [q_act, h, hk, h1, cond_false, nI_clamp (Nat.lt_trans hi hn)]
  rfl
/-- a load of a row -/
theorem q_rld {X : q_X} {d mi : Nat} {pc i n b : Nat} {ls : q_L} {st : List Value} {M M' : q_M} {x : Int32} {r : Nat} {res : Option Value} (h : q_cd mi pc = some (.aaload, 0)) (hk : q_kd r = (3, n, b)) (hx : x = nI i) (hi : i < n) (hn : n < 2 ^ 31) (k : q_Rn X d mi (pc + 1, ls, .ref (b + i) :: st, M) res M') : q_Rn X d mi (pc, ls, .int x :: .ref r :: st, M) res M' := by
  subst hx
  refine q_Rn.nx ?_ k
  have h1 : q_outD (nI i) n = false := by
    unfold q_outD
    rw [nI_clamp (Nat.lt_trans hi hn), decide_eq_false (nI_pos (Nat.lt_trans hi hn))]
    cases hz : Nat.ble n i with
    | false => rfl
    | true => exact absurd (Nat.ble_eq.mp hz) (by omega)
  simp only [q_act, h, hk, h1, cond_false, nI_clamp (Nat.lt_trans hi hn)]
  rfl
/-- a store of an int -/
theorem q_ist {X : q_X} {d mi : Nat} {pc i n b : Nat} {ls : q_L} {st : List Value} {M M' : q_M} {x v : Int32} {r : Nat} {res : Option Value} (h : q_cd mi pc = some (.iastore, 0)) (hk : q_kd r = (1, n, b)) (hx : x = nI i) (hi : i < n) (hn : n < 2 ^ 31) (k : q_Rn X d mi (pc + 1, ls, st, q_up M r i v) res M') : q_Rn X d mi (pc, ls, .int v :: .int x :: .ref r :: st, M) res M' := by
  subst hx
  refine q_Rn.nx ?_ k
  have h1 : q_outD (nI i) n = false := by
    unfold q_outD
    rw [nI_clamp (Nat.lt_trans hi hn), decide_eq_false (nI_pos (Nat.lt_trans hi hn))]
    cases hz : Nat.ble n i with
    | false => rfl
    | true => exact absurd (Nat.ble_eq.mp hz) (by omega)
  simp only [q_act, h, hk, h1, cond_false, nI_clamp (Nat.lt_trans hi hn)]
  rfl
/-- a store of a boolean -/
theorem q_zst {X : q_X} {d mi : Nat} {pc i n b : Nat} {ls : q_L} {st : List Value} {M M' : q_M} {x v : Int32} {r : Nat} {res : Option Value} (h : q_cd mi pc = some (.bastore, 0)) (hk : q_kd r = (2, n, b)) (hx : x = nI i) (hi : i < n) (hn : n < 2 ^ 31) (hv : v = 0 ∨ v = 1) (k : q_Rn X d mi (pc + 1, ls, st, q_up M r i v) res M') : q_Rn X d mi (pc, ls, .int v :: .int x :: .ref r :: st, M) res M' := by
  subst hx
  refine q_Rn.nx ?_ k
  have h1 : q_outD (nI i) n = false := by
    unfold q_outD
    rw [nI_clamp (Nat.lt_trans hi hn), decide_eq_false (nI_pos (Nat.lt_trans hi hn))]
    cases hz : Nat.ble n i with
    | false => rfl
    | true => exact absurd (Nat.ble_eq.mp hz) (by omega)
  have h2 : vp_nar .boolean v = v := by rcases hv with z | z <;> subst z <;> rfl
  simp only [q_act, h, hk, h1, h2, cond_false, nI_clamp (Nat.lt_trans hi hn)]
  rfl
theorem q_kd_bank {q : Nat} (h : q < 10) : q_kd (3 + q) = (1, 11, 0) := by
  have key : ∀ q, q < 10 → q_kd (3 + q) = (1, 11, 0) := by decide +kernel
  exact key q h
theorem q_kd_rows {q : Nat} (h : q < 7) : q_kd (27 + q) = (1, 6, 0) := by
  have key : ∀ q, q < 7 → q_kd (27 + q) = (1, 6, 0) := by decide +kernel
  exact key q h
/-- a boolean as an int -/
def q_b (b : Bool) : Int32 := bif b then 1 else 0
theorem q_b01 (b : Bool) : q_b b = 0 ∨ q_b b = 1 := by cases b <;> simp [q_b]
theorem q_b0 (b : Bool) : q_b b = 0 ↔ b = false := by cases b <;> simp [q_b]
theorem q_b1 (b : Bool) : q_b b = 1 ↔ b = true := by cases b <;> simp [q_b]
theorem q_bt : q_b true = 1 := rfl
theorem q_bf : q_b false = 0 := rfl
theorem q_Rn.ge0 {X : q_X} {d mi : Nat} (n : Nat) {b : Bool} {hd : Decidable (q_b b = 0)} {c c1 c2 : q_F} {r : Option Value} {M' : q_M} (h : q_go X mi n c = some (.inl (bif (@decide (q_b b = 0) hd) then c1 else c2))) (k1 : b = false → q_Rn X d mi c1 r M') (k2 : b = true → q_Rn X d mi c2 r M') : q_Rn X d mi c r M' :=
  q_Rn.gd n (q_b b = 0) h (fun z => k1 ((q_b0 b).mp z)) (fun z => k2 (by cases b with | true => rfl | false => exact absurd rfl z))
theorem q_Rn.gn0 {X : q_X} {d mi : Nat} (n : Nat) {b : Bool} {hd : Decidable (¬ q_b b = 0)} {c c1 c2 : q_F} {r : Option Value} {M' : q_M} (h : q_go X mi n c = some (.inl (bif (@decide (¬ q_b b = 0) hd) then c1 else c2))) (k1 : b = true → q_Rn X d mi c1 r M') (k2 : b = false → q_Rn X d mi c2 r M') : q_Rn X d mi c r M' :=
  q_Rn.gd n (¬ q_b b = 0) h (fun z => k1 (by cases b with | true => rfl | false => exact absurd rfl z)) (fun z => k2 (by cases b with | false => rfl | true => exact absurd (show ¬ q_b true = 0 from fun y => absurd ((q_b0 true).mp y) (by decide)) z))
theorem q_rtE {X : q_X} {d mi : Nat} {c : q_F} {r r1 : Option Value} {M' : q_M} (h : q_act X mi c = some (.inr (.inr r1))) (hr : r1 = r) (hM : c.2.2.2 = M') : q_Rn X d mi c r M' := q_Rn.rt (hr ▸ h) hM
/-- a switch's default -/
theorem q_swd {X : q_X} {d0 mi pc ex t : Nat} {d lo hi : Int} {os : Array Int} {x : Int32} {ls : q_L} {st : List Value} {M M' : q_M} {r : Option Value} (h : q_cd mi pc = some (.tableswitch d lo hi os, ex)) (ht : ((pc : Int) + d).toNat = t) (hx : x.toInt < lo ∨ hi < x.toInt) (k : q_Rn X d0 mi (t, ls, st, M) r M') : q_Rn X d0 mi (pc, ls, .int x :: st, M) r M' := by
  refine q_Rn.nx ?_ k
  have e : q_sw pc d lo hi os x.toInt = t := by unfold q_sw; rw [if_pos hx, ht]
  simp only [q_act, h, e]
  rfl
theorem q_i_ne {x : Int32} {n : Int} (v : Int32) (hv : v.toInt = n) (h : ¬ x = v) : x.toInt ≠ n := fun z => h (Int32.toInt_inj.mp (z.trans hv.symm))
theorem q_sw4 {x : Int32} (h0 : ¬ x = 0) (h1 : ¬ x = 1) (h2 : ¬ x = 2) (h3 : ¬ x = 3) : x.toInt < 0 ∨ 3 < x.toInt := by
  have a0 := q_i_ne (n := 0) _ rfl h0
  have a1 := q_i_ne (n := 1) _ rfl h1
  have a2 := q_i_ne (n := 2) _ rfl h2
  have a3 := q_i_ne (n := 3) _ rfl h3
  omega
theorem q_sw5 {x : Int32} (h0 : ¬ x = 0) (h1 : ¬ x = 1) (h2 : ¬ x = 2) (h3 : ¬ x = 3) (h4 : ¬ x = 4) : x.toInt < 0 ∨ 4 < x.toInt := by
  have a0 := q_sw4 h0 h1 h2 h3
  have a4 := q_i_ne (n := 4) _ rfl h4
  omega
theorem q_sw9 {x : Int32} (h0 : ¬ x = 0) (h1 : ¬ x = 1) (h2 : ¬ x = 2) (h3 : ¬ x = 3) (h4 : ¬ x = 4) (h5 : ¬ x = 5) (h6 : ¬ x = 6) (h7 : ¬ x = 7) (h8 : ¬ x = 8) : x.toInt < 0 ∨ 8 < x.toInt := by
  have a0 := q_sw5 h0 h1 h2 h3 h4
  have a5 := q_i_ne (n := 5) _ rfl h5
  have a6 := q_i_ne (n := 6) _ rfl h6
  have a7 := q_i_ne (n := 7) _ rfl h7
  have a8 := q_i_ne (n := 8) _ rfl h8
  omega
