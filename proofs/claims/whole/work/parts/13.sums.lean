/-! Contracts: weights, sums, gains of both sides (by program: wip/whole/c13.py) -/
theorem q_Wp.len {X : q_X} {d mi : Nat} {P : Option Value → q_M → Prop} {pc n b : Nat} {ls : q_L} {st : List Value} {M : q_M} {r : Nat} (h : q_cd mi pc = some (.arraylength, 0)) (hk : q_kd r = (1, n, b)) (k : q_Wp X d mi (pc + 1, ls, .int (Int32.ofNat n) :: st, M) P) : q_Wp X d mi (pc, ls, .ref r :: st, M) P := by
  refine q_Wp.gn 0 (c' := (pc + 1, ls, .int (Int32.ofNat n) :: st, M)) ?_ k
  simp only [q_go, q_act, h, hk]
  rfl
def s_sum (f : Nat → Int32) : Int32 := 0 + f 0 + f 1 + f 2 + f 3 + f 4 + f 5
def s_sumL (f : Nat → Int32) : Int64 := 0 + (f 0).toInt64 + (f 1).toInt64 + (f 2).toInt64 + (f 3).toInt64 + (f 4).toInt64 + (f 5).toInt64
def s_sqrL (f : Nat → Int32) : Int64 := 0 + (f 0).toInt64 * (f 0).toInt64 + (f 1).toInt64 * (f 1).toInt64 + (f 2).toInt64 * (f 2).toInt64 + (f 3).toInt64 * (f 3).toInt64 + (f 4).toInt64 * (f 4).toInt64 + (f 5).toInt64 * (f 5).toInt64
/-- the greatest, the least place of several -/
def s_bst (f : Nat → Int32) : Nat → Nat
  | 0 => 0
  | i + 1 => if f i ≤ f (s_bst f i) then s_bst f i else i
theorem s_bst_lt (f : Nat → Int32) : ∀ i, s_bst f (i + 1) < i + 1
  | 0 => by simp [s_bst]
  | i + 1 => by
    have h := s_bst_lt f i
    rw [s_bst]
    split <;> omega
theorem s_bst_1 (f : Nat → Int32) : s_bst f 1 = 0 := by simp [s_bst]
def s_max (f : Nat → Int32) : Nat → Int32
  | 0 => 0
  | i + 1 => if f i ≤ s_max f i then s_max f i else f i
/-- what an answer multiplies by -/
def s_fac (f : Nat → Int32) (j : Nat) (rr : Int32) : Int32 := if f 0 = 4 then 1 else if rr = 0 then 5 - f (5 + j) else f (5 + j)
def s_sureX (f : Nat → Int32) (a b : Int32) : Bool := !decide (f (s_bst f 6) * b < a * s_sum f)
def s_sureM (f : Nat → Int32) (a b : Int32) : Bool := !decide (lg_cmp ((s_max f 6).toInt64 * b.toInt64) (a.toInt64 * s_sumL f) < 0)
theorem s_5 (j : Nat) : (5 : Int32) + nI j = nI (5 + j) := nI_add 5 j
set_option maxRecDepth 10000 in
theorem c_weightsBehind (X : q_X) (d : Nat) {j : Nat} (hj : j ≤ 6) (M : q_M) : q_Ev X (d + 2) 24 [.ref 23, .int (nI j)] M (some (.ref (27 + j))) (M) := by
  refine q_Ev.ofW rfl ?_
  show q_Wp X _ 24 (0, [some (.ref 23), some (.int (nI j))], [], M) _
  have hw : s_in (nI j) 0 6 = true := s_in_ok (b := 0) (c := 6) (by omega) (by omega) (by omega)
  refine q_Wp.gc 5 (mj := 55) (as := [.int (nI j), .int 0, .int 6]) (pc := 11) (ls := [some (.ref 23), some (.int (nI j))]) (st := [.ref 26]) (M := M) (r1 := some (.int (q_b (s_in (nI j) 0 6)))) (M1 := M) rfl (c_isWithin X d (nI j) 0 6 M) ?_
  show q_Wp X _ 24 (11, [some (.ref 23), some (.int (nI j))], [.int (q_b (s_in (nI j) 0 6)), .ref 26], M) _
  refine q_Wp.cv (c' := (11, [some (.ref 23), some (.int (nI j))], [.int 1, .ref 26], M)) (by first | rw [hw, q_bt] | simp only [hw, q_bt]) ?_
  refine q_Wp.gn 2 (c' := (19, [some (.ref 23), some (.int (nI j))], [.int (nI j), .ref 26], M)) rfl ?_
  refine q_Wp.rld (i := j) rfl (rfl) rfl (by omega) (by decide) ?_
  show q_Wp X _ 24 (20, [some (.ref 23), some (.int (nI j))], [.ref (27 + j)], M) _
  exact q_Wp.rt rfl rfl ⟨by rfl, by rfl⟩

set_option maxRecDepth 10000 in
theorem c_weights (X : q_X) (d : Nat) {t : Nat} (ht : t ≤ 6) (M : q_M) (hT : M.1 23 2 = nI t) : q_Ev X (d + 3) 23 [.ref 23] M (some (.ref (27 + t))) (M) := by
  refine q_Ev.ofW rfl ?_
  show q_Wp X _ 23 (0, [some (.ref 23)], [], M) _
  refine q_Wp.gn 2 (c' := (5, [some (.ref 23)], [.int (M.1 23 2), .ref 23], M)) rfl ?_
  refine q_Wp.cv (c' := (5, [some (.ref 23)], [.int (nI t), .ref 23], M)) (by first | rw [hT] | simp only [hT]) ?_
  refine q_Wp.gc 0 (mj := 24) (as := [.ref 23, .int (nI t)]) (pc := 8) (ls := [some (.ref 23)]) (st := []) (M := M) (r1 := some (.ref (27 + t))) (M1 := M) rfl (c_weightsBehind X d (by omega) M) ?_
  show q_Wp X _ 23 (8, [some (.ref 23)], [.ref (27 + t)], M) _
  exact q_Wp.rt rfl rfl ⟨by rfl, by rfl⟩

set_option maxRecDepth 10000 in
theorem c_factor (X : q_X) (d : Nat) {f j : Nat} (hf : q_kd f = (1, 11, 0)) (hj : j < 6) (rr : Int32) (M : q_M) : q_Ev X (d + 1) 61 [.ref f, .int (nI j), .int rr] M (some (.int (s_fac (M.1 f) j rr))) (M) := by
  refine q_Ev.ofW rfl ?_
  show q_Wp X _ 61 (0, [some (.ref f), some (.int (nI j)), some (.int rr), none], [], M) _
  refine q_Wp.gn 1 (c' := (2, [some (.ref f), some (.int (nI j)), some (.int rr), none], [.int 0, .ref f], M)) rfl ?_
  refine q_Wp.ild (i := 0) rfl (hf) rfl (by decide) (by decide) ?_
  show q_Wp X _ 61 (3, [some (.ref f), some (.int (nI j)), some (.int rr), none], [.int (M.1 f 0)], M) _
  refine q_Wp.gd 1 (¬ (M.1 f 0) = 4) (c1 := (9, [some (.ref f), some (.int (nI j)), some (.int rr), none], [], M)) (c2 := (7, [some (.ref f), some (.int (nI j)), some (.int rr), none], [], M)) rfl (fun h1 => ?_) (fun h1 => ?_)
  · -- t
    skip
    refine q_Wp.gn 3 (c' := (13, [some (.ref f), some (.int (nI j)), some (.int rr), none], [.int (5 + (nI j)), .ref f], M)) rfl ?_
    refine q_Wp.cv (c' := (13, [some (.ref f), some (.int (nI j)), some (.int rr), none], [.int (nI (5 + j)), .ref f], M)) (by first | rw [s_5] | simp only [s_5]) ?_
    refine q_Wp.ild (i := (5 + j)) rfl (hf) rfl (by omega) (by decide) ?_
    show q_Wp X _ 61 (14, [some (.ref f), some (.int (nI j)), some (.int rr), none], [.int (M.1 f (5 + j))], M) _
    refine q_Wp.gd 2 (rr = 0) (c1 := (23, [some (.ref f), some (.int (nI j)), some (.int rr), some (.int (M.1 f (5 + j)))], [], M)) (c2 := (19, [some (.ref f), some (.int (nI j)), some (.int rr), some (.int (M.1 f (5 + j)))], [], M)) rfl (fun h2 => ?_) (fun h2 => ?_)
    · -- tt
      refine q_Wp.gn 2 (c' := (26, [some (.ref f), some (.int (nI j)), some (.int rr), some (.int (M.1 f (5 + j)))], [.int (5 - (M.1 f (5 + j)))], M)) rfl ?_
      exact q_Wp.rt rfl rfl ⟨by simp [s_fac, *], by rfl⟩
    · -- tf
      refine q_Wp.gn 1 (c' := (26, [some (.ref f), some (.int (nI j)), some (.int rr), some (.int (M.1 f (5 + j)))], [.int (M.1 f (5 + j))], M)) rfl ?_
      exact q_Wp.rt rfl rfl ⟨by simp [s_fac, *], by rfl⟩
  · -- f
    have h1 : (M.1 f 0) = 4 := Classical.byContradiction h1
    refine q_Wp.gn 0 (c' := (8, [some (.ref f), some (.int (nI j)), some (.int rr), none], [.int 1], M)) rfl ?_
    exact q_Wp.rt rfl rfl ⟨by simp [s_fac, *], by rfl⟩

set_option maxRecDepth 10000 in
theorem c_sumOf (X : q_X) (d : Nat) {w : Nat} (hw : q_kd w = (1, 6, 0)) (M : q_M) : q_Ev X (d + 1) 59 [.ref w] M (some (.int (s_sum (M.1 w)))) (M) := by
  refine q_Ev.ofW rfl ?_
  show q_Wp X _ 59 (0, [some (.ref w), none, none, none, none, none], [], M) _
  refine q_Wp.gn 4 (c' := (5, [some (.ref w), some (.int 0), some (.ref w), none, none, none], [.ref w], M)) rfl ?_
  refine q_Wp.len (n := 6) rfl (hw) ?_
  show q_Wp X _ 59 (6, [some (.ref w), some (.int 0), some (.ref w), none, none, none], [.int 6], M) _
  refine q_Wp.gn 7 (c' := (19, [some (.ref w), some (.int 0), some (.ref w), some (.int 6), some (.int 0), none], [.int 0, .ref w], M)) rfl ?_
  refine q_Wp.ild (i := 0) rfl (hw) rfl (by decide) (by decide) ?_
  show q_Wp X _ 59 (20, [some (.ref w), some (.int 0), some (.ref w), some (.int 6), some (.int 0), none], [.int (M.1 w 0)], M) _
  refine q_Wp.gn 11 (c' := (19, [some (.ref w), some (.int (0 + (M.1 w 0))), some (.ref w), some (.int 6), some (.int 1), some (.int (M.1 w 0))], [.int 1, .ref w], M)) rfl ?_
  refine q_Wp.ild (i := 1) rfl (hw) rfl (by decide) (by decide) ?_
  show q_Wp X _ 59 (20, [some (.ref w), some (.int (0 + (M.1 w 0))), some (.ref w), some (.int 6), some (.int 1), some (.int (M.1 w 0))], [.int (M.1 w 1)], M) _
  refine q_Wp.gn 11 (c' := (19, [some (.ref w), some (.int ((0 + (M.1 w 0)) + (M.1 w 1))), some (.ref w), some (.int 6), some (.int 2), some (.int (M.1 w 1))], [.int 2, .ref w], M)) rfl ?_
  refine q_Wp.ild (i := 2) rfl (hw) rfl (by decide) (by decide) ?_
  show q_Wp X _ 59 (20, [some (.ref w), some (.int ((0 + (M.1 w 0)) + (M.1 w 1))), some (.ref w), some (.int 6), some (.int 2), some (.int (M.1 w 1))], [.int (M.1 w 2)], M) _
  refine q_Wp.gn 11 (c' := (19, [some (.ref w), some (.int (((0 + (M.1 w 0)) + (M.1 w 1)) + (M.1 w 2))), some (.ref w), some (.int 6), some (.int 3), some (.int (M.1 w 2))], [.int 3, .ref w], M)) rfl ?_
  refine q_Wp.ild (i := 3) rfl (hw) rfl (by decide) (by decide) ?_
  show q_Wp X _ 59 (20, [some (.ref w), some (.int (((0 + (M.1 w 0)) + (M.1 w 1)) + (M.1 w 2))), some (.ref w), some (.int 6), some (.int 3), some (.int (M.1 w 2))], [.int (M.1 w 3)], M) _
  refine q_Wp.gn 11 (c' := (19, [some (.ref w), some (.int ((((0 + (M.1 w 0)) + (M.1 w 1)) + (M.1 w 2)) + (M.1 w 3))), some (.ref w), some (.int 6), some (.int 4), some (.int (M.1 w 3))], [.int 4, .ref w], M)) rfl ?_
  refine q_Wp.ild (i := 4) rfl (hw) rfl (by decide) (by decide) ?_
  show q_Wp X _ 59 (20, [some (.ref w), some (.int ((((0 + (M.1 w 0)) + (M.1 w 1)) + (M.1 w 2)) + (M.1 w 3))), some (.ref w), some (.int 6), some (.int 4), some (.int (M.1 w 3))], [.int (M.1 w 4)], M) _
  refine q_Wp.gn 11 (c' := (19, [some (.ref w), some (.int (((((0 + (M.1 w 0)) + (M.1 w 1)) + (M.1 w 2)) + (M.1 w 3)) + (M.1 w 4))), some (.ref w), some (.int 6), some (.int 5), some (.int (M.1 w 4))], [.int 5, .ref w], M)) rfl ?_
  refine q_Wp.ild (i := 5) rfl (hw) rfl (by decide) (by decide) ?_
  show q_Wp X _ 59 (20, [some (.ref w), some (.int (((((0 + (M.1 w 0)) + (M.1 w 1)) + (M.1 w 2)) + (M.1 w 3)) + (M.1 w 4))), some (.ref w), some (.int 6), some (.int 5), some (.int (M.1 w 4))], [.int (M.1 w 5)], M) _
  refine q_Wp.gn 10 (c' := (34, [some (.ref w), some (.int ((((((0 + (M.1 w 0)) + (M.1 w 1)) + (M.1 w 2)) + (M.1 w 3)) + (M.1 w 4)) + (M.1 w 5))), some (.ref w), some (.int 6), some (.int 6), some (.int (M.1 w 5))], [.int ((((((0 + (M.1 w 0)) + (M.1 w 1)) + (M.1 w 2)) + (M.1 w 3)) + (M.1 w 4)) + (M.1 w 5))], M)) rfl ?_
  exact q_Wp.rt rfl rfl ⟨by rfl, by rfl⟩

set_option maxRecDepth 10000 in
theorem c_likeliest (X : q_X) (d : Nat) {w : Nat} (hw : q_kd w = (1, 6, 0)) (M : q_M) : q_Ev X (d + 1) 60 [.ref w] M (some (.int (nI (s_bst (M.1 w) 6)))) (M) := by
  refine q_Ev.ofW rfl ?_
  show q_Wp X _ 60 (0, [some (.ref w), none, none], [], M) _
  have key : ∀ (k : Nat) (i b : Nat), 1 ≤ i → i ≤ 6 → b = s_bst (M.1 w) i → 6 - i < k → q_Wp X d 60 (4, [some (.ref w), some (.int (nI b)), some (.int (nI i))], [], M) (fun r M' => r = some (.int (nI (s_bst (M.1 w) 6))) ∧ M' = M) := by
    intro k
    induction k with
    | zero => intro i b h1i hi hb hm; exact absurd hm (by omega)
    | succ k ih =>
      intro i b h1i hi hb hm
      have hb6 : b < 6 := by
        obtain ⟨z, rfl⟩ : ∃ z, i = z + 1 := ⟨i - 1, by omega⟩
        have := s_bst_lt (M.1 w) z
        omega
      refine q_Wp.gn 1 (c' := (6, [some (.ref w), some (.int (nI b)), some (.int (nI i))], [.ref w, .int (nI i)], M)) rfl ?_
      refine q_Wp.len (n := 6) rfl (hw) ?_
      show q_Wp X _ 60 (7, [some (.ref w), some (.int (nI b)), some (.int (nI i))], [.int 6, .int (nI i)], M) _
      refine q_Wp.gd 0 (6 ≤ (nI i)) (c1 := (27, [some (.ref w), some (.int (nI b)), some (.int (nI i))], [], M)) (c2 := (10, [some (.ref w), some (.int (nI b)), some (.int (nI i))], [], M)) rfl (fun g1 => ?_) (fun g1 => ?_)
      · -- t
        have g1 : 6 ≤ i := (nI_leI (a := 6) (b := i) (by omega) (by omega)).mp g1
        refine q_Wp.gn 0 (c' := (28, [some (.ref w), some (.int (nI b)), some (.int (nI i))], [.int (nI b)], M)) rfl ?_
        exact q_Wp.rt rfl rfl ⟨by (have e : i = 6 := by omega); subst e; rw [hb], by rfl⟩
      · -- f
        have g1 : ¬ 6 ≤ i := fun z => g1 ((nI_leI (a := 6) (b := i) (by omega) (by omega)).mpr z)
        refine q_Wp.gn 1 (c' := (12, [some (.ref w), some (.int (nI b)), some (.int (nI i))], [.int (nI i), .ref w], M)) rfl ?_
        refine q_Wp.ild (i := i) rfl (hw) rfl (by omega) (by decide) ?_
        show q_Wp X _ 60 (13, [some (.ref w), some (.int (nI b)), some (.int (nI i))], [.int (M.1 w i)], M) _
        refine q_Wp.gn 1 (c' := (15, [some (.ref w), some (.int (nI b)), some (.int (nI i))], [.int (nI b), .ref w, .int (M.1 w i)], M)) rfl ?_
        refine q_Wp.ild (i := b) rfl (hw) rfl (by omega) (by decide) ?_
        show q_Wp X _ 60 (16, [some (.ref w), some (.int (nI b)), some (.int (nI i))], [.int (M.1 w b), .int (M.1 w i)], M) _
        refine q_Wp.gd 0 ((M.1 w i) ≤ (M.1 w b)) (c1 := (21, [some (.ref w), some (.int (nI b)), some (.int (nI i))], [], M)) (c2 := (19, [some (.ref w), some (.int (nI b)), some (.int (nI i))], [], M)) rfl (fun g2 => ?_) (fun g2 => ?_)
        · -- ft
          refine q_Wp.gn 0 (c' := (24, [some (.ref w), some (.int (nI b)), some (.int ((nI i) + 1))], [], M)) rfl ?_
          refine q_Wp.cv (c' := (24, [some (.ref w), some (.int (nI b)), some (.int (nI (i + 1)))], [], M)) (by first | rw [nI_1] | simp only [nI_1]) ?_
          refine q_Wp.gn 0 (c' := (4, [some (.ref w), some (.int (nI b)), some (.int (nI (i + 1)))], [], M)) rfl ?_
          exact ih (i + 1) _ (by omega) (by omega) (by rw [s_bst, ← hb, if_pos g2]) (by omega)
        · -- ff
          refine q_Wp.gn 2 (c' := (24, [some (.ref w), some (.int (nI i)), some (.int ((nI i) + 1))], [], M)) rfl ?_
          refine q_Wp.cv (c' := (24, [some (.ref w), some (.int (nI i)), some (.int (nI (i + 1)))], [], M)) (by first | rw [nI_1] | simp only [nI_1]) ?_
          refine q_Wp.gn 0 (c' := (4, [some (.ref w), some (.int (nI i)), some (.int (nI (i + 1)))], [], M)) rfl ?_
          exact ih (i + 1) _ (by omega) (by omega) (by rw [s_bst, ← hb, if_neg g2]) (by omega)
  refine q_Wp.gn 3 (c' := (4, [some (.ref w), some (.int 0), some (.int 1)], [], M)) rfl ?_
  exact key 6 1 0 (by omega) (by omega) (s_bst_1 _).symm (by omega)

set_option maxRecDepth 10000 in
theorem c_areSure (X : q_X) (d : Nat) {w : Nat} (hw : q_kd w = (1, 6, 0)) (M : q_M) : q_Ev X (d + 2) 21 [.ref 13, .ref w] M (some (.int (q_b (s_sureX (M.1 w) (M.1 13 1) (M.1 13 2))))) (M) := by
  refine q_Ev.ofW rfl ?_
  show q_Wp X _ 21 (0, [some (.ref 13), some (.ref w), none], [], M) _
  have hb6 : s_bst (M.1 w) 6 < 6 := s_bst_lt (M.1 w) 5
  refine q_Wp.gc 2 (mj := 60) (as := [.ref w]) (pc := 5) (ls := [some (.ref 13), some (.ref w), none]) (st := [.ref w]) (M := M) (r1 := some (.int (nI (s_bst (M.1 w) 6)))) (M1 := M) rfl (c_likeliest X d hw M) ?_
  show q_Wp X _ 21 (5, [some (.ref 13), some (.ref w), none], [.int (nI (s_bst (M.1 w) 6)), .ref w], M) _
  refine q_Wp.ild (i := (s_bst (M.1 w) 6)) rfl (hw) rfl (by omega) (by decide) ?_
  show q_Wp X _ 21 (6, [some (.ref 13), some (.ref w), none], [.int (M.1 w (s_bst (M.1 w) 6))], M) _
  refine q_Wp.gc 8 (mj := 59) (as := [.ref w]) (pc := 21) (ls := [some (.ref 13), some (.ref w), some (.int (M.1 w (s_bst (M.1 w) 6)))]) (st := [.int (M.1 13 1), .int ((M.1 w (s_bst (M.1 w) 6)) * (M.1 13 2))]) (M := M) (r1 := some (.int (s_sum (M.1 w)))) (M1 := M) rfl (c_sumOf X d hw M) ?_
  show q_Wp X _ 21 (21, [some (.ref 13), some (.ref w), some (.int (M.1 w (s_bst (M.1 w) 6)))], [.int (s_sum (M.1 w)), .int (M.1 13 1), .int ((M.1 w (s_bst (M.1 w) 6)) * (M.1 13 2))], M) _
  refine q_Wp.gd 1 (((M.1 w (s_bst (M.1 w) 6)) * (M.1 13 2)) < ((M.1 13 1) * (s_sum (M.1 w)))) (c1 := (29, [some (.ref 13), some (.ref w), some (.int (M.1 w (s_bst (M.1 w) 6)))], [], M)) (c2 := (25, [some (.ref 13), some (.ref w), some (.int (M.1 w (s_bst (M.1 w) 6)))], [], M)) rfl (fun h1 => ?_) (fun h1 => ?_)
  · -- t
    refine q_Wp.gn 0 (c' := (30, [some (.ref 13), some (.ref w), some (.int (M.1 w (s_bst (M.1 w) 6)))], [.int 0], M)) rfl ?_
    exact q_Wp.rt rfl rfl ⟨by simp [s_sureX, q_b, *], by rfl⟩
  · -- f
    refine q_Wp.gn 1 (c' := (30, [some (.ref 13), some (.ref w), some (.int (M.1 w (s_bst (M.1 w) 6)))], [.int 1], M)) rfl ?_
    exact q_Wp.rt rfl rfl ⟨by simp [s_sureX, q_b, *], by rfl⟩

def s_wf (u f : Nat → Int32) (rr : Int32) (j : Nat) : Int64 := (u j).toInt64 * (s_fac f j rr).toInt64
def s_sumB (u f : Nat → Int32) (rr : Int32) : Int64 := 0 + s_wf u f rr 0 + s_wf u f rr 1 + s_wf u f rr 2 + s_wf u f rr 3 + s_wf u f rr 4 + s_wf u f rr 5
def s_sqrB (u f : Nat → Int32) (rr : Int32) : Int64 := 0 + s_wf u f rr 0 * s_wf u f rr 0 + s_wf u f rr 1 * s_wf u f rr 1 + s_wf u f rr 2 * s_wf u f rr 2 + s_wf u f rr 3 * s_wf u f rr 3 + s_wf u f rr 4 * s_wf u f rr 4 + s_wf u f rr 5 * s_wf u f rr 5
def s_top (u f : Nat → Int32) : Int64 := if f 0 = 4 then 5 * s_sqrB u f 1 else s_sqrB u f 1 * s_sumB u f 0 + s_sqrB u f 0 * s_sumB u f 1
def s_bot (u f : Nat → Int32) : Int64 := if f 0 = 4 then s_sumB u f 1 else s_sumB u f 1 * s_sumB u f 0
set_option maxRecDepth 10000 in
theorem c_sumBehind (X : q_X) (d : Nat) {w f : Nat} (hw : q_kd w = (1, 6, 0)) (hf : q_kd f = (1, 11, 0)) (rr : Int32) (M : q_M) : q_Ev X (d + 2) 62 [.ref w, .ref f, .int rr] M (some (.long (s_sumB (M.1 w) (M.1 f) rr))) (M) := by
  refine q_Ev.ofW rfl ?_
  show q_Wp X _ 62 (0, [some (.ref w), some (.ref f), some (.int rr), none, none, none], [], M) _
  refine q_Wp.gn 9 (c' := (16, [some (.ref w), some (.ref f), some (.int rr), some (.long 0), none, some (.int 0)], [.int 0, .ref w, .long 0], M)) rfl ?_
  refine q_Wp.ild (i := 0) rfl (hw) rfl (by decide) (by decide) ?_
  show q_Wp X _ 62 (17, [some (.ref w), some (.ref f), some (.int rr), some (.long 0), none, some (.int 0)], [.int (M.1 w 0), .long 0], M) _
  refine q_Wp.gc 4 (mj := 61) (as := [.ref f, .int 0, .int rr]) (pc := 25) (ls := [some (.ref w), some (.ref f), some (.int rr), some (.long 0), none, some (.int 0)]) (st := [.long (Int32.toInt64 (M.1 w 0)), .long 0]) (M := M) (r1 := some (.int (s_fac (M.1 f) 0 rr))) (M1 := M) rfl (c_factor X d (f := f) (j := 0) hf (by omega) rr M) ?_
  show q_Wp X _ 62 (25, [some (.ref w), some (.ref f), some (.int rr), some (.long 0), none, some (.int 0)], [.int (s_fac (M.1 f) 0 rr), .long (Int32.toInt64 (M.1 w 0)), .long 0], M) _
  refine q_Wp.gn 11 (c' := (16, [some (.ref w), some (.ref f), some (.int rr), some (.long (0 + ((Int32.toInt64 (M.1 w 0)) * (Int32.toInt64 (s_fac (M.1 f) 0 rr))))), none, some (.int 1)], [.int 1, .ref w, .long (0 + ((Int32.toInt64 (M.1 w 0)) * (Int32.toInt64 (s_fac (M.1 f) 0 rr))))], M)) rfl ?_
  refine q_Wp.ild (i := 1) rfl (hw) rfl (by decide) (by decide) ?_
  show q_Wp X _ 62 (17, [some (.ref w), some (.ref f), some (.int rr), some (.long (0 + ((Int32.toInt64 (M.1 w 0)) * (Int32.toInt64 (s_fac (M.1 f) 0 rr))))), none, some (.int 1)], [.int (M.1 w 1), .long (0 + ((Int32.toInt64 (M.1 w 0)) * (Int32.toInt64 (s_fac (M.1 f) 0 rr))))], M) _
  refine q_Wp.gc 4 (mj := 61) (as := [.ref f, .int 1, .int rr]) (pc := 25) (ls := [some (.ref w), some (.ref f), some (.int rr), some (.long (0 + ((Int32.toInt64 (M.1 w 0)) * (Int32.toInt64 (s_fac (M.1 f) 0 rr))))), none, some (.int 1)]) (st := [.long (Int32.toInt64 (M.1 w 1)), .long (0 + ((Int32.toInt64 (M.1 w 0)) * (Int32.toInt64 (s_fac (M.1 f) 0 rr))))]) (M := M) (r1 := some (.int (s_fac (M.1 f) 1 rr))) (M1 := M) rfl (c_factor X d (f := f) (j := 1) hf (by omega) rr M) ?_
  show q_Wp X _ 62 (25, [some (.ref w), some (.ref f), some (.int rr), some (.long (0 + ((Int32.toInt64 (M.1 w 0)) * (Int32.toInt64 (s_fac (M.1 f) 0 rr))))), none, some (.int 1)], [.int (s_fac (M.1 f) 1 rr), .long (Int32.toInt64 (M.1 w 1)), .long (0 + ((Int32.toInt64 (M.1 w 0)) * (Int32.toInt64 (s_fac (M.1 f) 0 rr))))], M) _
  refine q_Wp.gn 11 (c' := (16, [some (.ref w), some (.ref f), some (.int rr), some (.long ((0 + ((Int32.toInt64 (M.1 w 0)) * (Int32.toInt64 (s_fac (M.1 f) 0 rr)))) + ((Int32.toInt64 (M.1 w 1)) * (Int32.toInt64 (s_fac (M.1 f) 1 rr))))), none, some (.int 2)], [.int 2, .ref w, .long ((0 + ((Int32.toInt64 (M.1 w 0)) * (Int32.toInt64 (s_fac (M.1 f) 0 rr)))) + ((Int32.toInt64 (M.1 w 1)) * (Int32.toInt64 (s_fac (M.1 f) 1 rr))))], M)) rfl ?_
  refine q_Wp.ild (i := 2) rfl (hw) rfl (by decide) (by decide) ?_
  show q_Wp X _ 62 (17, [some (.ref w), some (.ref f), some (.int rr), some (.long ((0 + ((Int32.toInt64 (M.1 w 0)) * (Int32.toInt64 (s_fac (M.1 f) 0 rr)))) + ((Int32.toInt64 (M.1 w 1)) * (Int32.toInt64 (s_fac (M.1 f) 1 rr))))), none, some (.int 2)], [.int (M.1 w 2), .long ((0 + ((Int32.toInt64 (M.1 w 0)) * (Int32.toInt64 (s_fac (M.1 f) 0 rr)))) + ((Int32.toInt64 (M.1 w 1)) * (Int32.toInt64 (s_fac (M.1 f) 1 rr))))], M) _
  refine q_Wp.gc 4 (mj := 61) (as := [.ref f, .int 2, .int rr]) (pc := 25) (ls := [some (.ref w), some (.ref f), some (.int rr), some (.long ((0 + ((Int32.toInt64 (M.1 w 0)) * (Int32.toInt64 (s_fac (M.1 f) 0 rr)))) + ((Int32.toInt64 (M.1 w 1)) * (Int32.toInt64 (s_fac (M.1 f) 1 rr))))), none, some (.int 2)]) (st := [.long (Int32.toInt64 (M.1 w 2)), .long ((0 + ((Int32.toInt64 (M.1 w 0)) * (Int32.toInt64 (s_fac (M.1 f) 0 rr)))) + ((Int32.toInt64 (M.1 w 1)) * (Int32.toInt64 (s_fac (M.1 f) 1 rr))))]) (M := M) (r1 := some (.int (s_fac (M.1 f) 2 rr))) (M1 := M) rfl (c_factor X d (f := f) (j := 2) hf (by omega) rr M) ?_
  show q_Wp X _ 62 (25, [some (.ref w), some (.ref f), some (.int rr), some (.long ((0 + ((Int32.toInt64 (M.1 w 0)) * (Int32.toInt64 (s_fac (M.1 f) 0 rr)))) + ((Int32.toInt64 (M.1 w 1)) * (Int32.toInt64 (s_fac (M.1 f) 1 rr))))), none, some (.int 2)], [.int (s_fac (M.1 f) 2 rr), .long (Int32.toInt64 (M.1 w 2)), .long ((0 + ((Int32.toInt64 (M.1 w 0)) * (Int32.toInt64 (s_fac (M.1 f) 0 rr)))) + ((Int32.toInt64 (M.1 w 1)) * (Int32.toInt64 (s_fac (M.1 f) 1 rr))))], M) _
  refine q_Wp.gn 11 (c' := (16, [some (.ref w), some (.ref f), some (.int rr), some (.long (((0 + ((Int32.toInt64 (M.1 w 0)) * (Int32.toInt64 (s_fac (M.1 f) 0 rr)))) + ((Int32.toInt64 (M.1 w 1)) * (Int32.toInt64 (s_fac (M.1 f) 1 rr)))) + ((Int32.toInt64 (M.1 w 2)) * (Int32.toInt64 (s_fac (M.1 f) 2 rr))))), none, some (.int 3)], [.int 3, .ref w, .long (((0 + ((Int32.toInt64 (M.1 w 0)) * (Int32.toInt64 (s_fac (M.1 f) 0 rr)))) + ((Int32.toInt64 (M.1 w 1)) * (Int32.toInt64 (s_fac (M.1 f) 1 rr)))) + ((Int32.toInt64 (M.1 w 2)) * (Int32.toInt64 (s_fac (M.1 f) 2 rr))))], M)) rfl ?_
  refine q_Wp.ild (i := 3) rfl (hw) rfl (by decide) (by decide) ?_
  show q_Wp X _ 62 (17, [some (.ref w), some (.ref f), some (.int rr), some (.long (((0 + ((Int32.toInt64 (M.1 w 0)) * (Int32.toInt64 (s_fac (M.1 f) 0 rr)))) + ((Int32.toInt64 (M.1 w 1)) * (Int32.toInt64 (s_fac (M.1 f) 1 rr)))) + ((Int32.toInt64 (M.1 w 2)) * (Int32.toInt64 (s_fac (M.1 f) 2 rr))))), none, some (.int 3)], [.int (M.1 w 3), .long (((0 + ((Int32.toInt64 (M.1 w 0)) * (Int32.toInt64 (s_fac (M.1 f) 0 rr)))) + ((Int32.toInt64 (M.1 w 1)) * (Int32.toInt64 (s_fac (M.1 f) 1 rr)))) + ((Int32.toInt64 (M.1 w 2)) * (Int32.toInt64 (s_fac (M.1 f) 2 rr))))], M) _
  refine q_Wp.gc 4 (mj := 61) (as := [.ref f, .int 3, .int rr]) (pc := 25) (ls := [some (.ref w), some (.ref f), some (.int rr), some (.long (((0 + ((Int32.toInt64 (M.1 w 0)) * (Int32.toInt64 (s_fac (M.1 f) 0 rr)))) + ((Int32.toInt64 (M.1 w 1)) * (Int32.toInt64 (s_fac (M.1 f) 1 rr)))) + ((Int32.toInt64 (M.1 w 2)) * (Int32.toInt64 (s_fac (M.1 f) 2 rr))))), none, some (.int 3)]) (st := [.long (Int32.toInt64 (M.1 w 3)), .long (((0 + ((Int32.toInt64 (M.1 w 0)) * (Int32.toInt64 (s_fac (M.1 f) 0 rr)))) + ((Int32.toInt64 (M.1 w 1)) * (Int32.toInt64 (s_fac (M.1 f) 1 rr)))) + ((Int32.toInt64 (M.1 w 2)) * (Int32.toInt64 (s_fac (M.1 f) 2 rr))))]) (M := M) (r1 := some (.int (s_fac (M.1 f) 3 rr))) (M1 := M) rfl (c_factor X d (f := f) (j := 3) hf (by omega) rr M) ?_
  show q_Wp X _ 62 (25, [some (.ref w), some (.ref f), some (.int rr), some (.long (((0 + ((Int32.toInt64 (M.1 w 0)) * (Int32.toInt64 (s_fac (M.1 f) 0 rr)))) + ((Int32.toInt64 (M.1 w 1)) * (Int32.toInt64 (s_fac (M.1 f) 1 rr)))) + ((Int32.toInt64 (M.1 w 2)) * (Int32.toInt64 (s_fac (M.1 f) 2 rr))))), none, some (.int 3)], [.int (s_fac (M.1 f) 3 rr), .long (Int32.toInt64 (M.1 w 3)), .long (((0 + ((Int32.toInt64 (M.1 w 0)) * (Int32.toInt64 (s_fac (M.1 f) 0 rr)))) + ((Int32.toInt64 (M.1 w 1)) * (Int32.toInt64 (s_fac (M.1 f) 1 rr)))) + ((Int32.toInt64 (M.1 w 2)) * (Int32.toInt64 (s_fac (M.1 f) 2 rr))))], M) _
  refine q_Wp.gn 11 (c' := (16, [some (.ref w), some (.ref f), some (.int rr), some (.long ((((0 + ((Int32.toInt64 (M.1 w 0)) * (Int32.toInt64 (s_fac (M.1 f) 0 rr)))) + ((Int32.toInt64 (M.1 w 1)) * (Int32.toInt64 (s_fac (M.1 f) 1 rr)))) + ((Int32.toInt64 (M.1 w 2)) * (Int32.toInt64 (s_fac (M.1 f) 2 rr)))) + ((Int32.toInt64 (M.1 w 3)) * (Int32.toInt64 (s_fac (M.1 f) 3 rr))))), none, some (.int 4)], [.int 4, .ref w, .long ((((0 + ((Int32.toInt64 (M.1 w 0)) * (Int32.toInt64 (s_fac (M.1 f) 0 rr)))) + ((Int32.toInt64 (M.1 w 1)) * (Int32.toInt64 (s_fac (M.1 f) 1 rr)))) + ((Int32.toInt64 (M.1 w 2)) * (Int32.toInt64 (s_fac (M.1 f) 2 rr)))) + ((Int32.toInt64 (M.1 w 3)) * (Int32.toInt64 (s_fac (M.1 f) 3 rr))))], M)) rfl ?_
  refine q_Wp.ild (i := 4) rfl (hw) rfl (by decide) (by decide) ?_
  show q_Wp X _ 62 (17, [some (.ref w), some (.ref f), some (.int rr), some (.long ((((0 + ((Int32.toInt64 (M.1 w 0)) * (Int32.toInt64 (s_fac (M.1 f) 0 rr)))) + ((Int32.toInt64 (M.1 w 1)) * (Int32.toInt64 (s_fac (M.1 f) 1 rr)))) + ((Int32.toInt64 (M.1 w 2)) * (Int32.toInt64 (s_fac (M.1 f) 2 rr)))) + ((Int32.toInt64 (M.1 w 3)) * (Int32.toInt64 (s_fac (M.1 f) 3 rr))))), none, some (.int 4)], [.int (M.1 w 4), .long ((((0 + ((Int32.toInt64 (M.1 w 0)) * (Int32.toInt64 (s_fac (M.1 f) 0 rr)))) + ((Int32.toInt64 (M.1 w 1)) * (Int32.toInt64 (s_fac (M.1 f) 1 rr)))) + ((Int32.toInt64 (M.1 w 2)) * (Int32.toInt64 (s_fac (M.1 f) 2 rr)))) + ((Int32.toInt64 (M.1 w 3)) * (Int32.toInt64 (s_fac (M.1 f) 3 rr))))], M) _
  refine q_Wp.gc 4 (mj := 61) (as := [.ref f, .int 4, .int rr]) (pc := 25) (ls := [some (.ref w), some (.ref f), some (.int rr), some (.long ((((0 + ((Int32.toInt64 (M.1 w 0)) * (Int32.toInt64 (s_fac (M.1 f) 0 rr)))) + ((Int32.toInt64 (M.1 w 1)) * (Int32.toInt64 (s_fac (M.1 f) 1 rr)))) + ((Int32.toInt64 (M.1 w 2)) * (Int32.toInt64 (s_fac (M.1 f) 2 rr)))) + ((Int32.toInt64 (M.1 w 3)) * (Int32.toInt64 (s_fac (M.1 f) 3 rr))))), none, some (.int 4)]) (st := [.long (Int32.toInt64 (M.1 w 4)), .long ((((0 + ((Int32.toInt64 (M.1 w 0)) * (Int32.toInt64 (s_fac (M.1 f) 0 rr)))) + ((Int32.toInt64 (M.1 w 1)) * (Int32.toInt64 (s_fac (M.1 f) 1 rr)))) + ((Int32.toInt64 (M.1 w 2)) * (Int32.toInt64 (s_fac (M.1 f) 2 rr)))) + ((Int32.toInt64 (M.1 w 3)) * (Int32.toInt64 (s_fac (M.1 f) 3 rr))))]) (M := M) (r1 := some (.int (s_fac (M.1 f) 4 rr))) (M1 := M) rfl (c_factor X d (f := f) (j := 4) hf (by omega) rr M) ?_
  show q_Wp X _ 62 (25, [some (.ref w), some (.ref f), some (.int rr), some (.long ((((0 + ((Int32.toInt64 (M.1 w 0)) * (Int32.toInt64 (s_fac (M.1 f) 0 rr)))) + ((Int32.toInt64 (M.1 w 1)) * (Int32.toInt64 (s_fac (M.1 f) 1 rr)))) + ((Int32.toInt64 (M.1 w 2)) * (Int32.toInt64 (s_fac (M.1 f) 2 rr)))) + ((Int32.toInt64 (M.1 w 3)) * (Int32.toInt64 (s_fac (M.1 f) 3 rr))))), none, some (.int 4)], [.int (s_fac (M.1 f) 4 rr), .long (Int32.toInt64 (M.1 w 4)), .long ((((0 + ((Int32.toInt64 (M.1 w 0)) * (Int32.toInt64 (s_fac (M.1 f) 0 rr)))) + ((Int32.toInt64 (M.1 w 1)) * (Int32.toInt64 (s_fac (M.1 f) 1 rr)))) + ((Int32.toInt64 (M.1 w 2)) * (Int32.toInt64 (s_fac (M.1 f) 2 rr)))) + ((Int32.toInt64 (M.1 w 3)) * (Int32.toInt64 (s_fac (M.1 f) 3 rr))))], M) _
  refine q_Wp.gn 11 (c' := (16, [some (.ref w), some (.ref f), some (.int rr), some (.long (((((0 + ((Int32.toInt64 (M.1 w 0)) * (Int32.toInt64 (s_fac (M.1 f) 0 rr)))) + ((Int32.toInt64 (M.1 w 1)) * (Int32.toInt64 (s_fac (M.1 f) 1 rr)))) + ((Int32.toInt64 (M.1 w 2)) * (Int32.toInt64 (s_fac (M.1 f) 2 rr)))) + ((Int32.toInt64 (M.1 w 3)) * (Int32.toInt64 (s_fac (M.1 f) 3 rr)))) + ((Int32.toInt64 (M.1 w 4)) * (Int32.toInt64 (s_fac (M.1 f) 4 rr))))), none, some (.int 5)], [.int 5, .ref w, .long (((((0 + ((Int32.toInt64 (M.1 w 0)) * (Int32.toInt64 (s_fac (M.1 f) 0 rr)))) + ((Int32.toInt64 (M.1 w 1)) * (Int32.toInt64 (s_fac (M.1 f) 1 rr)))) + ((Int32.toInt64 (M.1 w 2)) * (Int32.toInt64 (s_fac (M.1 f) 2 rr)))) + ((Int32.toInt64 (M.1 w 3)) * (Int32.toInt64 (s_fac (M.1 f) 3 rr)))) + ((Int32.toInt64 (M.1 w 4)) * (Int32.toInt64 (s_fac (M.1 f) 4 rr))))], M)) rfl ?_
  refine q_Wp.ild (i := 5) rfl (hw) rfl (by decide) (by decide) ?_
  show q_Wp X _ 62 (17, [some (.ref w), some (.ref f), some (.int rr), some (.long (((((0 + ((Int32.toInt64 (M.1 w 0)) * (Int32.toInt64 (s_fac (M.1 f) 0 rr)))) + ((Int32.toInt64 (M.1 w 1)) * (Int32.toInt64 (s_fac (M.1 f) 1 rr)))) + ((Int32.toInt64 (M.1 w 2)) * (Int32.toInt64 (s_fac (M.1 f) 2 rr)))) + ((Int32.toInt64 (M.1 w 3)) * (Int32.toInt64 (s_fac (M.1 f) 3 rr)))) + ((Int32.toInt64 (M.1 w 4)) * (Int32.toInt64 (s_fac (M.1 f) 4 rr))))), none, some (.int 5)], [.int (M.1 w 5), .long (((((0 + ((Int32.toInt64 (M.1 w 0)) * (Int32.toInt64 (s_fac (M.1 f) 0 rr)))) + ((Int32.toInt64 (M.1 w 1)) * (Int32.toInt64 (s_fac (M.1 f) 1 rr)))) + ((Int32.toInt64 (M.1 w 2)) * (Int32.toInt64 (s_fac (M.1 f) 2 rr)))) + ((Int32.toInt64 (M.1 w 3)) * (Int32.toInt64 (s_fac (M.1 f) 3 rr)))) + ((Int32.toInt64 (M.1 w 4)) * (Int32.toInt64 (s_fac (M.1 f) 4 rr))))], M) _
  refine q_Wp.gc 4 (mj := 61) (as := [.ref f, .int 5, .int rr]) (pc := 25) (ls := [some (.ref w), some (.ref f), some (.int rr), some (.long (((((0 + ((Int32.toInt64 (M.1 w 0)) * (Int32.toInt64 (s_fac (M.1 f) 0 rr)))) + ((Int32.toInt64 (M.1 w 1)) * (Int32.toInt64 (s_fac (M.1 f) 1 rr)))) + ((Int32.toInt64 (M.1 w 2)) * (Int32.toInt64 (s_fac (M.1 f) 2 rr)))) + ((Int32.toInt64 (M.1 w 3)) * (Int32.toInt64 (s_fac (M.1 f) 3 rr)))) + ((Int32.toInt64 (M.1 w 4)) * (Int32.toInt64 (s_fac (M.1 f) 4 rr))))), none, some (.int 5)]) (st := [.long (Int32.toInt64 (M.1 w 5)), .long (((((0 + ((Int32.toInt64 (M.1 w 0)) * (Int32.toInt64 (s_fac (M.1 f) 0 rr)))) + ((Int32.toInt64 (M.1 w 1)) * (Int32.toInt64 (s_fac (M.1 f) 1 rr)))) + ((Int32.toInt64 (M.1 w 2)) * (Int32.toInt64 (s_fac (M.1 f) 2 rr)))) + ((Int32.toInt64 (M.1 w 3)) * (Int32.toInt64 (s_fac (M.1 f) 3 rr)))) + ((Int32.toInt64 (M.1 w 4)) * (Int32.toInt64 (s_fac (M.1 f) 4 rr))))]) (M := M) (r1 := some (.int (s_fac (M.1 f) 5 rr))) (M1 := M) rfl (c_factor X d (f := f) (j := 5) hf (by omega) rr M) ?_
  show q_Wp X _ 62 (25, [some (.ref w), some (.ref f), some (.int rr), some (.long (((((0 + ((Int32.toInt64 (M.1 w 0)) * (Int32.toInt64 (s_fac (M.1 f) 0 rr)))) + ((Int32.toInt64 (M.1 w 1)) * (Int32.toInt64 (s_fac (M.1 f) 1 rr)))) + ((Int32.toInt64 (M.1 w 2)) * (Int32.toInt64 (s_fac (M.1 f) 2 rr)))) + ((Int32.toInt64 (M.1 w 3)) * (Int32.toInt64 (s_fac (M.1 f) 3 rr)))) + ((Int32.toInt64 (M.1 w 4)) * (Int32.toInt64 (s_fac (M.1 f) 4 rr))))), none, some (.int 5)], [.int (s_fac (M.1 f) 5 rr), .long (Int32.toInt64 (M.1 w 5)), .long (((((0 + ((Int32.toInt64 (M.1 w 0)) * (Int32.toInt64 (s_fac (M.1 f) 0 rr)))) + ((Int32.toInt64 (M.1 w 1)) * (Int32.toInt64 (s_fac (M.1 f) 1 rr)))) + ((Int32.toInt64 (M.1 w 2)) * (Int32.toInt64 (s_fac (M.1 f) 2 rr)))) + ((Int32.toInt64 (M.1 w 3)) * (Int32.toInt64 (s_fac (M.1 f) 3 rr)))) + ((Int32.toInt64 (M.1 w 4)) * (Int32.toInt64 (s_fac (M.1 f) 4 rr))))], M) _
  refine q_Wp.gn 9 (c' := (36, [some (.ref w), some (.ref f), some (.int rr), some (.long ((((((0 + ((Int32.toInt64 (M.1 w 0)) * (Int32.toInt64 (s_fac (M.1 f) 0 rr)))) + ((Int32.toInt64 (M.1 w 1)) * (Int32.toInt64 (s_fac (M.1 f) 1 rr)))) + ((Int32.toInt64 (M.1 w 2)) * (Int32.toInt64 (s_fac (M.1 f) 2 rr)))) + ((Int32.toInt64 (M.1 w 3)) * (Int32.toInt64 (s_fac (M.1 f) 3 rr)))) + ((Int32.toInt64 (M.1 w 4)) * (Int32.toInt64 (s_fac (M.1 f) 4 rr)))) + ((Int32.toInt64 (M.1 w 5)) * (Int32.toInt64 (s_fac (M.1 f) 5 rr))))), none, some (.int 6)], [.long ((((((0 + ((Int32.toInt64 (M.1 w 0)) * (Int32.toInt64 (s_fac (M.1 f) 0 rr)))) + ((Int32.toInt64 (M.1 w 1)) * (Int32.toInt64 (s_fac (M.1 f) 1 rr)))) + ((Int32.toInt64 (M.1 w 2)) * (Int32.toInt64 (s_fac (M.1 f) 2 rr)))) + ((Int32.toInt64 (M.1 w 3)) * (Int32.toInt64 (s_fac (M.1 f) 3 rr)))) + ((Int32.toInt64 (M.1 w 4)) * (Int32.toInt64 (s_fac (M.1 f) 4 rr)))) + ((Int32.toInt64 (M.1 w 5)) * (Int32.toInt64 (s_fac (M.1 f) 5 rr))))], M)) rfl ?_
  exact q_Wp.rt rfl rfl ⟨by rfl, by rfl⟩

set_option maxRecDepth 10000 in
theorem c_squaresBehind (X : q_X) (d : Nat) {w f : Nat} (hw : q_kd w = (1, 6, 0)) (hf : q_kd f = (1, 11, 0)) (rr : Int32) (M : q_M) : q_Ev X (d + 2) 63 [.ref w, .ref f, .int rr] M (some (.long (s_sqrB (M.1 w) (M.1 f) rr))) (M) := by
  refine q_Ev.ofW rfl ?_
  show q_Wp X _ 63 (0, [some (.ref w), some (.ref f), some (.int rr), none, none, none, none, none], [], M) _
  refine q_Wp.gn 8 (c' := (15, [some (.ref w), some (.ref f), some (.int rr), some (.long 0), none, some (.int 0), none, none], [.int 0, .ref w], M)) rfl ?_
  refine q_Wp.ild (i := 0) rfl (hw) rfl (by decide) (by decide) ?_
  show q_Wp X _ 63 (16, [some (.ref w), some (.ref f), some (.int rr), some (.long 0), none, some (.int 0), none, none], [.int (M.1 w 0)], M) _
  refine q_Wp.gc 4 (mj := 61) (as := [.ref f, .int 0, .int rr]) (pc := 24) (ls := [some (.ref w), some (.ref f), some (.int rr), some (.long 0), none, some (.int 0), none, none]) (st := [.long (Int32.toInt64 (M.1 w 0))]) (M := M) (r1 := some (.int (s_fac (M.1 f) 0 rr))) (M1 := M) rfl (c_factor X d (f := f) (j := 0) hf (by omega) rr M) ?_
  show q_Wp X _ 63 (24, [some (.ref w), some (.ref f), some (.int rr), some (.long 0), none, some (.int 0), none, none], [.int (s_fac (M.1 f) 0 rr), .long (Int32.toInt64 (M.1 w 0))], M) _
  refine q_Wp.gn 15 (c' := (15, [some (.ref w), some (.ref f), some (.int rr), some (.long (0 + (((Int32.toInt64 (M.1 w 0)) * (Int32.toInt64 (s_fac (M.1 f) 0 rr))) * ((Int32.toInt64 (M.1 w 0)) * (Int32.toInt64 (s_fac (M.1 f) 0 rr)))))), none, some (.int 1), some (.long ((Int32.toInt64 (M.1 w 0)) * (Int32.toInt64 (s_fac (M.1 f) 0 rr)))), none], [.int 1, .ref w], M)) rfl ?_
  refine q_Wp.ild (i := 1) rfl (hw) rfl (by decide) (by decide) ?_
  show q_Wp X _ 63 (16, [some (.ref w), some (.ref f), some (.int rr), some (.long (0 + (((Int32.toInt64 (M.1 w 0)) * (Int32.toInt64 (s_fac (M.1 f) 0 rr))) * ((Int32.toInt64 (M.1 w 0)) * (Int32.toInt64 (s_fac (M.1 f) 0 rr)))))), none, some (.int 1), some (.long ((Int32.toInt64 (M.1 w 0)) * (Int32.toInt64 (s_fac (M.1 f) 0 rr)))), none], [.int (M.1 w 1)], M) _
  refine q_Wp.gc 4 (mj := 61) (as := [.ref f, .int 1, .int rr]) (pc := 24) (ls := [some (.ref w), some (.ref f), some (.int rr), some (.long (0 + (((Int32.toInt64 (M.1 w 0)) * (Int32.toInt64 (s_fac (M.1 f) 0 rr))) * ((Int32.toInt64 (M.1 w 0)) * (Int32.toInt64 (s_fac (M.1 f) 0 rr)))))), none, some (.int 1), some (.long ((Int32.toInt64 (M.1 w 0)) * (Int32.toInt64 (s_fac (M.1 f) 0 rr)))), none]) (st := [.long (Int32.toInt64 (M.1 w 1))]) (M := M) (r1 := some (.int (s_fac (M.1 f) 1 rr))) (M1 := M) rfl (c_factor X d (f := f) (j := 1) hf (by omega) rr M) ?_
  show q_Wp X _ 63 (24, [some (.ref w), some (.ref f), some (.int rr), some (.long (0 + (((Int32.toInt64 (M.1 w 0)) * (Int32.toInt64 (s_fac (M.1 f) 0 rr))) * ((Int32.toInt64 (M.1 w 0)) * (Int32.toInt64 (s_fac (M.1 f) 0 rr)))))), none, some (.int 1), some (.long ((Int32.toInt64 (M.1 w 0)) * (Int32.toInt64 (s_fac (M.1 f) 0 rr)))), none], [.int (s_fac (M.1 f) 1 rr), .long (Int32.toInt64 (M.1 w 1))], M) _
  refine q_Wp.gn 15 (c' := (15, [some (.ref w), some (.ref f), some (.int rr), some (.long ((0 + (((Int32.toInt64 (M.1 w 0)) * (Int32.toInt64 (s_fac (M.1 f) 0 rr))) * ((Int32.toInt64 (M.1 w 0)) * (Int32.toInt64 (s_fac (M.1 f) 0 rr))))) + (((Int32.toInt64 (M.1 w 1)) * (Int32.toInt64 (s_fac (M.1 f) 1 rr))) * ((Int32.toInt64 (M.1 w 1)) * (Int32.toInt64 (s_fac (M.1 f) 1 rr)))))), none, some (.int 2), some (.long ((Int32.toInt64 (M.1 w 1)) * (Int32.toInt64 (s_fac (M.1 f) 1 rr)))), none], [.int 2, .ref w], M)) rfl ?_
  refine q_Wp.ild (i := 2) rfl (hw) rfl (by decide) (by decide) ?_
  show q_Wp X _ 63 (16, [some (.ref w), some (.ref f), some (.int rr), some (.long ((0 + (((Int32.toInt64 (M.1 w 0)) * (Int32.toInt64 (s_fac (M.1 f) 0 rr))) * ((Int32.toInt64 (M.1 w 0)) * (Int32.toInt64 (s_fac (M.1 f) 0 rr))))) + (((Int32.toInt64 (M.1 w 1)) * (Int32.toInt64 (s_fac (M.1 f) 1 rr))) * ((Int32.toInt64 (M.1 w 1)) * (Int32.toInt64 (s_fac (M.1 f) 1 rr)))))), none, some (.int 2), some (.long ((Int32.toInt64 (M.1 w 1)) * (Int32.toInt64 (s_fac (M.1 f) 1 rr)))), none], [.int (M.1 w 2)], M) _
  refine q_Wp.gc 4 (mj := 61) (as := [.ref f, .int 2, .int rr]) (pc := 24) (ls := [some (.ref w), some (.ref f), some (.int rr), some (.long ((0 + (((Int32.toInt64 (M.1 w 0)) * (Int32.toInt64 (s_fac (M.1 f) 0 rr))) * ((Int32.toInt64 (M.1 w 0)) * (Int32.toInt64 (s_fac (M.1 f) 0 rr))))) + (((Int32.toInt64 (M.1 w 1)) * (Int32.toInt64 (s_fac (M.1 f) 1 rr))) * ((Int32.toInt64 (M.1 w 1)) * (Int32.toInt64 (s_fac (M.1 f) 1 rr)))))), none, some (.int 2), some (.long ((Int32.toInt64 (M.1 w 1)) * (Int32.toInt64 (s_fac (M.1 f) 1 rr)))), none]) (st := [.long (Int32.toInt64 (M.1 w 2))]) (M := M) (r1 := some (.int (s_fac (M.1 f) 2 rr))) (M1 := M) rfl (c_factor X d (f := f) (j := 2) hf (by omega) rr M) ?_
  show q_Wp X _ 63 (24, [some (.ref w), some (.ref f), some (.int rr), some (.long ((0 + (((Int32.toInt64 (M.1 w 0)) * (Int32.toInt64 (s_fac (M.1 f) 0 rr))) * ((Int32.toInt64 (M.1 w 0)) * (Int32.toInt64 (s_fac (M.1 f) 0 rr))))) + (((Int32.toInt64 (M.1 w 1)) * (Int32.toInt64 (s_fac (M.1 f) 1 rr))) * ((Int32.toInt64 (M.1 w 1)) * (Int32.toInt64 (s_fac (M.1 f) 1 rr)))))), none, some (.int 2), some (.long ((Int32.toInt64 (M.1 w 1)) * (Int32.toInt64 (s_fac (M.1 f) 1 rr)))), none], [.int (s_fac (M.1 f) 2 rr), .long (Int32.toInt64 (M.1 w 2))], M) _
  refine q_Wp.gn 15 (c' := (15, [some (.ref w), some (.ref f), some (.int rr), some (.long (((0 + (((Int32.toInt64 (M.1 w 0)) * (Int32.toInt64 (s_fac (M.1 f) 0 rr))) * ((Int32.toInt64 (M.1 w 0)) * (Int32.toInt64 (s_fac (M.1 f) 0 rr))))) + (((Int32.toInt64 (M.1 w 1)) * (Int32.toInt64 (s_fac (M.1 f) 1 rr))) * ((Int32.toInt64 (M.1 w 1)) * (Int32.toInt64 (s_fac (M.1 f) 1 rr))))) + (((Int32.toInt64 (M.1 w 2)) * (Int32.toInt64 (s_fac (M.1 f) 2 rr))) * ((Int32.toInt64 (M.1 w 2)) * (Int32.toInt64 (s_fac (M.1 f) 2 rr)))))), none, some (.int 3), some (.long ((Int32.toInt64 (M.1 w 2)) * (Int32.toInt64 (s_fac (M.1 f) 2 rr)))), none], [.int 3, .ref w], M)) rfl ?_
  refine q_Wp.ild (i := 3) rfl (hw) rfl (by decide) (by decide) ?_
  show q_Wp X _ 63 (16, [some (.ref w), some (.ref f), some (.int rr), some (.long (((0 + (((Int32.toInt64 (M.1 w 0)) * (Int32.toInt64 (s_fac (M.1 f) 0 rr))) * ((Int32.toInt64 (M.1 w 0)) * (Int32.toInt64 (s_fac (M.1 f) 0 rr))))) + (((Int32.toInt64 (M.1 w 1)) * (Int32.toInt64 (s_fac (M.1 f) 1 rr))) * ((Int32.toInt64 (M.1 w 1)) * (Int32.toInt64 (s_fac (M.1 f) 1 rr))))) + (((Int32.toInt64 (M.1 w 2)) * (Int32.toInt64 (s_fac (M.1 f) 2 rr))) * ((Int32.toInt64 (M.1 w 2)) * (Int32.toInt64 (s_fac (M.1 f) 2 rr)))))), none, some (.int 3), some (.long ((Int32.toInt64 (M.1 w 2)) * (Int32.toInt64 (s_fac (M.1 f) 2 rr)))), none], [.int (M.1 w 3)], M) _
  refine q_Wp.gc 4 (mj := 61) (as := [.ref f, .int 3, .int rr]) (pc := 24) (ls := [some (.ref w), some (.ref f), some (.int rr), some (.long (((0 + (((Int32.toInt64 (M.1 w 0)) * (Int32.toInt64 (s_fac (M.1 f) 0 rr))) * ((Int32.toInt64 (M.1 w 0)) * (Int32.toInt64 (s_fac (M.1 f) 0 rr))))) + (((Int32.toInt64 (M.1 w 1)) * (Int32.toInt64 (s_fac (M.1 f) 1 rr))) * ((Int32.toInt64 (M.1 w 1)) * (Int32.toInt64 (s_fac (M.1 f) 1 rr))))) + (((Int32.toInt64 (M.1 w 2)) * (Int32.toInt64 (s_fac (M.1 f) 2 rr))) * ((Int32.toInt64 (M.1 w 2)) * (Int32.toInt64 (s_fac (M.1 f) 2 rr)))))), none, some (.int 3), some (.long ((Int32.toInt64 (M.1 w 2)) * (Int32.toInt64 (s_fac (M.1 f) 2 rr)))), none]) (st := [.long (Int32.toInt64 (M.1 w 3))]) (M := M) (r1 := some (.int (s_fac (M.1 f) 3 rr))) (M1 := M) rfl (c_factor X d (f := f) (j := 3) hf (by omega) rr M) ?_
  show q_Wp X _ 63 (24, [some (.ref w), some (.ref f), some (.int rr), some (.long (((0 + (((Int32.toInt64 (M.1 w 0)) * (Int32.toInt64 (s_fac (M.1 f) 0 rr))) * ((Int32.toInt64 (M.1 w 0)) * (Int32.toInt64 (s_fac (M.1 f) 0 rr))))) + (((Int32.toInt64 (M.1 w 1)) * (Int32.toInt64 (s_fac (M.1 f) 1 rr))) * ((Int32.toInt64 (M.1 w 1)) * (Int32.toInt64 (s_fac (M.1 f) 1 rr))))) + (((Int32.toInt64 (M.1 w 2)) * (Int32.toInt64 (s_fac (M.1 f) 2 rr))) * ((Int32.toInt64 (M.1 w 2)) * (Int32.toInt64 (s_fac (M.1 f) 2 rr)))))), none, some (.int 3), some (.long ((Int32.toInt64 (M.1 w 2)) * (Int32.toInt64 (s_fac (M.1 f) 2 rr)))), none], [.int (s_fac (M.1 f) 3 rr), .long (Int32.toInt64 (M.1 w 3))], M) _
  refine q_Wp.gn 15 (c' := (15, [some (.ref w), some (.ref f), some (.int rr), some (.long ((((0 + (((Int32.toInt64 (M.1 w 0)) * (Int32.toInt64 (s_fac (M.1 f) 0 rr))) * ((Int32.toInt64 (M.1 w 0)) * (Int32.toInt64 (s_fac (M.1 f) 0 rr))))) + (((Int32.toInt64 (M.1 w 1)) * (Int32.toInt64 (s_fac (M.1 f) 1 rr))) * ((Int32.toInt64 (M.1 w 1)) * (Int32.toInt64 (s_fac (M.1 f) 1 rr))))) + (((Int32.toInt64 (M.1 w 2)) * (Int32.toInt64 (s_fac (M.1 f) 2 rr))) * ((Int32.toInt64 (M.1 w 2)) * (Int32.toInt64 (s_fac (M.1 f) 2 rr))))) + (((Int32.toInt64 (M.1 w 3)) * (Int32.toInt64 (s_fac (M.1 f) 3 rr))) * ((Int32.toInt64 (M.1 w 3)) * (Int32.toInt64 (s_fac (M.1 f) 3 rr)))))), none, some (.int 4), some (.long ((Int32.toInt64 (M.1 w 3)) * (Int32.toInt64 (s_fac (M.1 f) 3 rr)))), none], [.int 4, .ref w], M)) rfl ?_
  refine q_Wp.ild (i := 4) rfl (hw) rfl (by decide) (by decide) ?_
  show q_Wp X _ 63 (16, [some (.ref w), some (.ref f), some (.int rr), some (.long ((((0 + (((Int32.toInt64 (M.1 w 0)) * (Int32.toInt64 (s_fac (M.1 f) 0 rr))) * ((Int32.toInt64 (M.1 w 0)) * (Int32.toInt64 (s_fac (M.1 f) 0 rr))))) + (((Int32.toInt64 (M.1 w 1)) * (Int32.toInt64 (s_fac (M.1 f) 1 rr))) * ((Int32.toInt64 (M.1 w 1)) * (Int32.toInt64 (s_fac (M.1 f) 1 rr))))) + (((Int32.toInt64 (M.1 w 2)) * (Int32.toInt64 (s_fac (M.1 f) 2 rr))) * ((Int32.toInt64 (M.1 w 2)) * (Int32.toInt64 (s_fac (M.1 f) 2 rr))))) + (((Int32.toInt64 (M.1 w 3)) * (Int32.toInt64 (s_fac (M.1 f) 3 rr))) * ((Int32.toInt64 (M.1 w 3)) * (Int32.toInt64 (s_fac (M.1 f) 3 rr)))))), none, some (.int 4), some (.long ((Int32.toInt64 (M.1 w 3)) * (Int32.toInt64 (s_fac (M.1 f) 3 rr)))), none], [.int (M.1 w 4)], M) _
  refine q_Wp.gc 4 (mj := 61) (as := [.ref f, .int 4, .int rr]) (pc := 24) (ls := [some (.ref w), some (.ref f), some (.int rr), some (.long ((((0 + (((Int32.toInt64 (M.1 w 0)) * (Int32.toInt64 (s_fac (M.1 f) 0 rr))) * ((Int32.toInt64 (M.1 w 0)) * (Int32.toInt64 (s_fac (M.1 f) 0 rr))))) + (((Int32.toInt64 (M.1 w 1)) * (Int32.toInt64 (s_fac (M.1 f) 1 rr))) * ((Int32.toInt64 (M.1 w 1)) * (Int32.toInt64 (s_fac (M.1 f) 1 rr))))) + (((Int32.toInt64 (M.1 w 2)) * (Int32.toInt64 (s_fac (M.1 f) 2 rr))) * ((Int32.toInt64 (M.1 w 2)) * (Int32.toInt64 (s_fac (M.1 f) 2 rr))))) + (((Int32.toInt64 (M.1 w 3)) * (Int32.toInt64 (s_fac (M.1 f) 3 rr))) * ((Int32.toInt64 (M.1 w 3)) * (Int32.toInt64 (s_fac (M.1 f) 3 rr)))))), none, some (.int 4), some (.long ((Int32.toInt64 (M.1 w 3)) * (Int32.toInt64 (s_fac (M.1 f) 3 rr)))), none]) (st := [.long (Int32.toInt64 (M.1 w 4))]) (M := M) (r1 := some (.int (s_fac (M.1 f) 4 rr))) (M1 := M) rfl (c_factor X d (f := f) (j := 4) hf (by omega) rr M) ?_
  show q_Wp X _ 63 (24, [some (.ref w), some (.ref f), some (.int rr), some (.long ((((0 + (((Int32.toInt64 (M.1 w 0)) * (Int32.toInt64 (s_fac (M.1 f) 0 rr))) * ((Int32.toInt64 (M.1 w 0)) * (Int32.toInt64 (s_fac (M.1 f) 0 rr))))) + (((Int32.toInt64 (M.1 w 1)) * (Int32.toInt64 (s_fac (M.1 f) 1 rr))) * ((Int32.toInt64 (M.1 w 1)) * (Int32.toInt64 (s_fac (M.1 f) 1 rr))))) + (((Int32.toInt64 (M.1 w 2)) * (Int32.toInt64 (s_fac (M.1 f) 2 rr))) * ((Int32.toInt64 (M.1 w 2)) * (Int32.toInt64 (s_fac (M.1 f) 2 rr))))) + (((Int32.toInt64 (M.1 w 3)) * (Int32.toInt64 (s_fac (M.1 f) 3 rr))) * ((Int32.toInt64 (M.1 w 3)) * (Int32.toInt64 (s_fac (M.1 f) 3 rr)))))), none, some (.int 4), some (.long ((Int32.toInt64 (M.1 w 3)) * (Int32.toInt64 (s_fac (M.1 f) 3 rr)))), none], [.int (s_fac (M.1 f) 4 rr), .long (Int32.toInt64 (M.1 w 4))], M) _
  refine q_Wp.gn 15 (c' := (15, [some (.ref w), some (.ref f), some (.int rr), some (.long (((((0 + (((Int32.toInt64 (M.1 w 0)) * (Int32.toInt64 (s_fac (M.1 f) 0 rr))) * ((Int32.toInt64 (M.1 w 0)) * (Int32.toInt64 (s_fac (M.1 f) 0 rr))))) + (((Int32.toInt64 (M.1 w 1)) * (Int32.toInt64 (s_fac (M.1 f) 1 rr))) * ((Int32.toInt64 (M.1 w 1)) * (Int32.toInt64 (s_fac (M.1 f) 1 rr))))) + (((Int32.toInt64 (M.1 w 2)) * (Int32.toInt64 (s_fac (M.1 f) 2 rr))) * ((Int32.toInt64 (M.1 w 2)) * (Int32.toInt64 (s_fac (M.1 f) 2 rr))))) + (((Int32.toInt64 (M.1 w 3)) * (Int32.toInt64 (s_fac (M.1 f) 3 rr))) * ((Int32.toInt64 (M.1 w 3)) * (Int32.toInt64 (s_fac (M.1 f) 3 rr))))) + (((Int32.toInt64 (M.1 w 4)) * (Int32.toInt64 (s_fac (M.1 f) 4 rr))) * ((Int32.toInt64 (M.1 w 4)) * (Int32.toInt64 (s_fac (M.1 f) 4 rr)))))), none, some (.int 5), some (.long ((Int32.toInt64 (M.1 w 4)) * (Int32.toInt64 (s_fac (M.1 f) 4 rr)))), none], [.int 5, .ref w], M)) rfl ?_
  refine q_Wp.ild (i := 5) rfl (hw) rfl (by decide) (by decide) ?_
  show q_Wp X _ 63 (16, [some (.ref w), some (.ref f), some (.int rr), some (.long (((((0 + (((Int32.toInt64 (M.1 w 0)) * (Int32.toInt64 (s_fac (M.1 f) 0 rr))) * ((Int32.toInt64 (M.1 w 0)) * (Int32.toInt64 (s_fac (M.1 f) 0 rr))))) + (((Int32.toInt64 (M.1 w 1)) * (Int32.toInt64 (s_fac (M.1 f) 1 rr))) * ((Int32.toInt64 (M.1 w 1)) * (Int32.toInt64 (s_fac (M.1 f) 1 rr))))) + (((Int32.toInt64 (M.1 w 2)) * (Int32.toInt64 (s_fac (M.1 f) 2 rr))) * ((Int32.toInt64 (M.1 w 2)) * (Int32.toInt64 (s_fac (M.1 f) 2 rr))))) + (((Int32.toInt64 (M.1 w 3)) * (Int32.toInt64 (s_fac (M.1 f) 3 rr))) * ((Int32.toInt64 (M.1 w 3)) * (Int32.toInt64 (s_fac (M.1 f) 3 rr))))) + (((Int32.toInt64 (M.1 w 4)) * (Int32.toInt64 (s_fac (M.1 f) 4 rr))) * ((Int32.toInt64 (M.1 w 4)) * (Int32.toInt64 (s_fac (M.1 f) 4 rr)))))), none, some (.int 5), some (.long ((Int32.toInt64 (M.1 w 4)) * (Int32.toInt64 (s_fac (M.1 f) 4 rr)))), none], [.int (M.1 w 5)], M) _
  refine q_Wp.gc 4 (mj := 61) (as := [.ref f, .int 5, .int rr]) (pc := 24) (ls := [some (.ref w), some (.ref f), some (.int rr), some (.long (((((0 + (((Int32.toInt64 (M.1 w 0)) * (Int32.toInt64 (s_fac (M.1 f) 0 rr))) * ((Int32.toInt64 (M.1 w 0)) * (Int32.toInt64 (s_fac (M.1 f) 0 rr))))) + (((Int32.toInt64 (M.1 w 1)) * (Int32.toInt64 (s_fac (M.1 f) 1 rr))) * ((Int32.toInt64 (M.1 w 1)) * (Int32.toInt64 (s_fac (M.1 f) 1 rr))))) + (((Int32.toInt64 (M.1 w 2)) * (Int32.toInt64 (s_fac (M.1 f) 2 rr))) * ((Int32.toInt64 (M.1 w 2)) * (Int32.toInt64 (s_fac (M.1 f) 2 rr))))) + (((Int32.toInt64 (M.1 w 3)) * (Int32.toInt64 (s_fac (M.1 f) 3 rr))) * ((Int32.toInt64 (M.1 w 3)) * (Int32.toInt64 (s_fac (M.1 f) 3 rr))))) + (((Int32.toInt64 (M.1 w 4)) * (Int32.toInt64 (s_fac (M.1 f) 4 rr))) * ((Int32.toInt64 (M.1 w 4)) * (Int32.toInt64 (s_fac (M.1 f) 4 rr)))))), none, some (.int 5), some (.long ((Int32.toInt64 (M.1 w 4)) * (Int32.toInt64 (s_fac (M.1 f) 4 rr)))), none]) (st := [.long (Int32.toInt64 (M.1 w 5))]) (M := M) (r1 := some (.int (s_fac (M.1 f) 5 rr))) (M1 := M) rfl (c_factor X d (f := f) (j := 5) hf (by omega) rr M) ?_
  show q_Wp X _ 63 (24, [some (.ref w), some (.ref f), some (.int rr), some (.long (((((0 + (((Int32.toInt64 (M.1 w 0)) * (Int32.toInt64 (s_fac (M.1 f) 0 rr))) * ((Int32.toInt64 (M.1 w 0)) * (Int32.toInt64 (s_fac (M.1 f) 0 rr))))) + (((Int32.toInt64 (M.1 w 1)) * (Int32.toInt64 (s_fac (M.1 f) 1 rr))) * ((Int32.toInt64 (M.1 w 1)) * (Int32.toInt64 (s_fac (M.1 f) 1 rr))))) + (((Int32.toInt64 (M.1 w 2)) * (Int32.toInt64 (s_fac (M.1 f) 2 rr))) * ((Int32.toInt64 (M.1 w 2)) * (Int32.toInt64 (s_fac (M.1 f) 2 rr))))) + (((Int32.toInt64 (M.1 w 3)) * (Int32.toInt64 (s_fac (M.1 f) 3 rr))) * ((Int32.toInt64 (M.1 w 3)) * (Int32.toInt64 (s_fac (M.1 f) 3 rr))))) + (((Int32.toInt64 (M.1 w 4)) * (Int32.toInt64 (s_fac (M.1 f) 4 rr))) * ((Int32.toInt64 (M.1 w 4)) * (Int32.toInt64 (s_fac (M.1 f) 4 rr)))))), none, some (.int 5), some (.long ((Int32.toInt64 (M.1 w 4)) * (Int32.toInt64 (s_fac (M.1 f) 4 rr)))), none], [.int (s_fac (M.1 f) 5 rr), .long (Int32.toInt64 (M.1 w 5))], M) _
  refine q_Wp.gn 14 (c' := (43, [some (.ref w), some (.ref f), some (.int rr), some (.long ((((((0 + (((Int32.toInt64 (M.1 w 0)) * (Int32.toInt64 (s_fac (M.1 f) 0 rr))) * ((Int32.toInt64 (M.1 w 0)) * (Int32.toInt64 (s_fac (M.1 f) 0 rr))))) + (((Int32.toInt64 (M.1 w 1)) * (Int32.toInt64 (s_fac (M.1 f) 1 rr))) * ((Int32.toInt64 (M.1 w 1)) * (Int32.toInt64 (s_fac (M.1 f) 1 rr))))) + (((Int32.toInt64 (M.1 w 2)) * (Int32.toInt64 (s_fac (M.1 f) 2 rr))) * ((Int32.toInt64 (M.1 w 2)) * (Int32.toInt64 (s_fac (M.1 f) 2 rr))))) + (((Int32.toInt64 (M.1 w 3)) * (Int32.toInt64 (s_fac (M.1 f) 3 rr))) * ((Int32.toInt64 (M.1 w 3)) * (Int32.toInt64 (s_fac (M.1 f) 3 rr))))) + (((Int32.toInt64 (M.1 w 4)) * (Int32.toInt64 (s_fac (M.1 f) 4 rr))) * ((Int32.toInt64 (M.1 w 4)) * (Int32.toInt64 (s_fac (M.1 f) 4 rr))))) + (((Int32.toInt64 (M.1 w 5)) * (Int32.toInt64 (s_fac (M.1 f) 5 rr))) * ((Int32.toInt64 (M.1 w 5)) * (Int32.toInt64 (s_fac (M.1 f) 5 rr)))))), none, some (.int 6), some (.long ((Int32.toInt64 (M.1 w 5)) * (Int32.toInt64 (s_fac (M.1 f) 5 rr)))), none], [.long ((((((0 + (((Int32.toInt64 (M.1 w 0)) * (Int32.toInt64 (s_fac (M.1 f) 0 rr))) * ((Int32.toInt64 (M.1 w 0)) * (Int32.toInt64 (s_fac (M.1 f) 0 rr))))) + (((Int32.toInt64 (M.1 w 1)) * (Int32.toInt64 (s_fac (M.1 f) 1 rr))) * ((Int32.toInt64 (M.1 w 1)) * (Int32.toInt64 (s_fac (M.1 f) 1 rr))))) + (((Int32.toInt64 (M.1 w 2)) * (Int32.toInt64 (s_fac (M.1 f) 2 rr))) * ((Int32.toInt64 (M.1 w 2)) * (Int32.toInt64 (s_fac (M.1 f) 2 rr))))) + (((Int32.toInt64 (M.1 w 3)) * (Int32.toInt64 (s_fac (M.1 f) 3 rr))) * ((Int32.toInt64 (M.1 w 3)) * (Int32.toInt64 (s_fac (M.1 f) 3 rr))))) + (((Int32.toInt64 (M.1 w 4)) * (Int32.toInt64 (s_fac (M.1 f) 4 rr))) * ((Int32.toInt64 (M.1 w 4)) * (Int32.toInt64 (s_fac (M.1 f) 4 rr))))) + (((Int32.toInt64 (M.1 w 5)) * (Int32.toInt64 (s_fac (M.1 f) 5 rr))) * ((Int32.toInt64 (M.1 w 5)) * (Int32.toInt64 (s_fac (M.1 f) 5 rr)))))], M)) rfl ?_
  exact q_Wp.rt rfl rfl ⟨by rfl, by rfl⟩

set_option maxRecDepth 10000 in
theorem c_gainTop (X : q_X) (d : Nat) {w f : Nat} (hw : q_kd w = (1, 6, 0)) (hf : q_kd f = (1, 11, 0)) (M : q_M) : q_Ev X (d + 3) 64 [.ref w, .ref f] M (some (.long (s_top (M.1 w) (M.1 f)))) (M) := by
  refine q_Ev.ofW rfl ?_
  show q_Wp X _ 64 (0, [some (.ref w), some (.ref f), none, none], [], M) _
  refine q_Wp.gc 3 (mj := 63) (as := [.ref w, .ref f, .int 1]) (pc := 6) (ls := [some (.ref w), some (.ref f), none, none]) (st := []) (M := M) (r1 := some (.long (s_sqrB (M.1 w) (M.1 f) 1))) (M1 := M) rfl (c_squaresBehind X d hw hf 1 M) ?_
  show q_Wp X _ 64 (6, [some (.ref w), some (.ref f), none, none], [.long (s_sqrB (M.1 w) (M.1 f) 1)], M) _
  refine q_Wp.gn 2 (c' := (9, [some (.ref w), some (.ref f), some (.long (s_sqrB (M.1 w) (M.1 f) 1)), none], [.int 0, .ref f], M)) rfl ?_
  refine q_Wp.ild (i := 0) rfl (hf) rfl (by decide) (by decide) ?_
  show q_Wp X _ 64 (10, [some (.ref w), some (.ref f), some (.long (s_sqrB (M.1 w) (M.1 f) 1)), none], [.int (M.1 f 0)], M) _
  refine q_Wp.gd 1 (¬ (M.1 f 0) = 4) (c1 := (20, [some (.ref w), some (.ref f), some (.long (s_sqrB (M.1 w) (M.1 f) 1)), none], [], M)) (c2 := (14, [some (.ref w), some (.ref f), some (.long (s_sqrB (M.1 w) (M.1 f) 1)), none], [], M)) rfl (fun h1 => ?_) (fun h1 => ?_)
  · -- t
    skip
    refine q_Wp.gc 4 (mj := 62) (as := [.ref w, .ref f, .int 0]) (pc := 27) (ls := [some (.ref w), some (.ref f), some (.long (s_sqrB (M.1 w) (M.1 f) 1)), none]) (st := [.long (s_sqrB (M.1 w) (M.1 f) 1)]) (M := M) (r1 := some (.long (s_sumB (M.1 w) (M.1 f) 0))) (M1 := M) rfl (c_sumBehind X d hw hf 0 M) ?_
    show q_Wp X _ 64 (27, [some (.ref w), some (.ref f), some (.long (s_sqrB (M.1 w) (M.1 f) 1)), none], [.long (s_sumB (M.1 w) (M.1 f) 0), .long (s_sqrB (M.1 w) (M.1 f) 1)], M) _
    refine q_Wp.gc 4 (mj := 63) (as := [.ref w, .ref f, .int 0]) (pc := 34) (ls := [some (.ref w), some (.ref f), some (.long (s_sqrB (M.1 w) (M.1 f) 1)), none]) (st := [.long ((s_sqrB (M.1 w) (M.1 f) 1) * (s_sumB (M.1 w) (M.1 f) 0))]) (M := M) (r1 := some (.long (s_sqrB (M.1 w) (M.1 f) 0))) (M1 := M) rfl (c_squaresBehind X d hw hf 0 M) ?_
    show q_Wp X _ 64 (34, [some (.ref w), some (.ref f), some (.long (s_sqrB (M.1 w) (M.1 f) 1)), none], [.long (s_sqrB (M.1 w) (M.1 f) 0), .long ((s_sqrB (M.1 w) (M.1 f) 1) * (s_sumB (M.1 w) (M.1 f) 0))], M) _
    refine q_Wp.gc 3 (mj := 62) (as := [.ref w, .ref f, .int 1]) (pc := 40) (ls := [some (.ref w), some (.ref f), some (.long (s_sqrB (M.1 w) (M.1 f) 1)), none]) (st := [.long (s_sqrB (M.1 w) (M.1 f) 0), .long ((s_sqrB (M.1 w) (M.1 f) 1) * (s_sumB (M.1 w) (M.1 f) 0))]) (M := M) (r1 := some (.long (s_sumB (M.1 w) (M.1 f) 1))) (M1 := M) rfl (c_sumBehind X d hw hf 1 M) ?_
    show q_Wp X _ 64 (40, [some (.ref w), some (.ref f), some (.long (s_sqrB (M.1 w) (M.1 f) 1)), none], [.long (s_sumB (M.1 w) (M.1 f) 1), .long (s_sqrB (M.1 w) (M.1 f) 0), .long ((s_sqrB (M.1 w) (M.1 f) 1) * (s_sumB (M.1 w) (M.1 f) 0))], M) _
    refine q_Wp.gn 1 (c' := (42, [some (.ref w), some (.ref f), some (.long (s_sqrB (M.1 w) (M.1 f) 1)), none], [.long (((s_sqrB (M.1 w) (M.1 f) 1) * (s_sumB (M.1 w) (M.1 f) 0)) + ((s_sqrB (M.1 w) (M.1 f) 0) * (s_sumB (M.1 w) (M.1 f) 1)))], M)) rfl ?_
    exact q_Wp.rt rfl rfl ⟨by simp [s_top, *], by rfl⟩
  · -- f
    have h1 : (M.1 f 0) = 4 := Classical.byContradiction h1
    refine q_Wp.gn 2 (c' := (19, [some (.ref w), some (.ref f), some (.long (s_sqrB (M.1 w) (M.1 f) 1)), none], [.long (5 * (s_sqrB (M.1 w) (M.1 f) 1))], M)) rfl ?_
    exact q_Wp.rt rfl rfl ⟨by simp [s_top, *], by rfl⟩

set_option maxRecDepth 10000 in
theorem c_gainBottom (X : q_X) (d : Nat) {w f : Nat} (hw : q_kd w = (1, 6, 0)) (hf : q_kd f = (1, 11, 0)) (M : q_M) : q_Ev X (d + 3) 65 [.ref w, .ref f] M (some (.long (s_bot (M.1 w) (M.1 f)))) (M) := by
  refine q_Ev.ofW rfl ?_
  show q_Wp X _ 65 (0, [some (.ref w), some (.ref f), none, none], [], M) _
  refine q_Wp.gc 3 (mj := 62) (as := [.ref w, .ref f, .int 1]) (pc := 6) (ls := [some (.ref w), some (.ref f), none, none]) (st := []) (M := M) (r1 := some (.long (s_sumB (M.1 w) (M.1 f) 1))) (M1 := M) rfl (c_sumBehind X d hw hf 1 M) ?_
  show q_Wp X _ 65 (6, [some (.ref w), some (.ref f), none, none], [.long (s_sumB (M.1 w) (M.1 f) 1)], M) _
  refine q_Wp.gn 2 (c' := (9, [some (.ref w), some (.ref f), some (.long (s_sumB (M.1 w) (M.1 f) 1)), none], [.int 0, .ref f], M)) rfl ?_
  refine q_Wp.ild (i := 0) rfl (hf) rfl (by decide) (by decide) ?_
  show q_Wp X _ 65 (10, [some (.ref w), some (.ref f), some (.long (s_sumB (M.1 w) (M.1 f) 1)), none], [.int (M.1 f 0)], M) _
  refine q_Wp.gd 1 (¬ (M.1 f 0) = 4) (c1 := (16, [some (.ref w), some (.ref f), some (.long (s_sumB (M.1 w) (M.1 f) 1)), none], [], M)) (c2 := (14, [some (.ref w), some (.ref f), some (.long (s_sumB (M.1 w) (M.1 f) 1)), none], [], M)) rfl (fun h1 => ?_) (fun h1 => ?_)
  · -- t
    skip
    refine q_Wp.gc 4 (mj := 62) (as := [.ref w, .ref f, .int 0]) (pc := 23) (ls := [some (.ref w), some (.ref f), some (.long (s_sumB (M.1 w) (M.1 f) 1)), none]) (st := [.long (s_sumB (M.1 w) (M.1 f) 1)]) (M := M) (r1 := some (.long (s_sumB (M.1 w) (M.1 f) 0))) (M1 := M) rfl (c_sumBehind X d hw hf 0 M) ?_
    show q_Wp X _ 65 (23, [some (.ref w), some (.ref f), some (.long (s_sumB (M.1 w) (M.1 f) 1)), none], [.long (s_sumB (M.1 w) (M.1 f) 0), .long (s_sumB (M.1 w) (M.1 f) 1)], M) _
    refine q_Wp.gn 0 (c' := (24, [some (.ref w), some (.ref f), some (.long (s_sumB (M.1 w) (M.1 f) 1)), none], [.long ((s_sumB (M.1 w) (M.1 f) 1) * (s_sumB (M.1 w) (M.1 f) 0))], M)) rfl ?_
    exact q_Wp.rt rfl rfl ⟨by simp [s_bot, *], by rfl⟩
  · -- f
    have h1 : (M.1 f 0) = 4 := Classical.byContradiction h1
    refine q_Wp.gn 0 (c' := (15, [some (.ref w), some (.ref f), some (.long (s_sumB (M.1 w) (M.1 f) 1)), none], [.long (s_sumB (M.1 w) (M.1 f) 1)], M)) rfl ?_
    exact q_Wp.rt rfl rfl ⟨by simp [s_bot, *], by rfl⟩

