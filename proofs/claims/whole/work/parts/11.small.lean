/-! Contracts: small methods of both sides (by program: wip/whole/c11.py) -/
/-- a number within bounds -/
def s_in (x lo hi : Int32) : Bool := !decide (x < lo) && !decide (hi < x)
/-- may a fact of a question be so -/
def s_canBe (w x : Int32) : Bool := if w = 0 then s_in x 0 4 else if w = 1 then s_in x 0 2 else if w = 2 then s_in x 0 2 else if w = 3 then s_in x 1 99 else false
set_option maxRecDepth 10000 in
theorem c_isWithin (X : q_X) (d : Nat) (x lo hi : Int32) (M : q_M) : q_Ev X (d + 1) 55 [.int x, .int lo, .int hi] M (some (.int (q_b (s_in x lo hi)))) (M) := by
  refine q_Ev.of rfl ?_
  show q_Rn X _ 55 (0, [some (.int x), some (.int lo), some (.int hi)], [], M) _ _
  refine q_Rn.gd 2 (x < lo) (c1 := (14, [some (.int x), some (.int lo), some (.int hi)], [], M)) (c2 := (5, [some (.int x), some (.int lo), some (.int hi)], [], M)) rfl (fun h1 => ?_) (fun h1 => ?_)
  · -- t
    refine q_Rn.gn 0 (c' := (15, [some (.int x), some (.int lo), some (.int hi)], [.int 0], M)) rfl ?_
    exact q_rtE rfl (by simp [s_in, q_b, *]) rfl
  · -- f
    refine q_Rn.gd 2 (hi < x) (c1 := (14, [some (.int x), some (.int lo), some (.int hi)], [], M)) (c2 := (10, [some (.int x), some (.int lo), some (.int hi)], [], M)) rfl (fun h2 => ?_) (fun h2 => ?_)
    · -- ft
      refine q_Rn.gn 0 (c' := (15, [some (.int x), some (.int lo), some (.int hi)], [.int 0], M)) rfl ?_
      exact q_rtE rfl (by simp [s_in, q_b, *]) rfl
    · -- ff
      refine q_Rn.gn 1 (c' := (15, [some (.int x), some (.int lo), some (.int hi)], [.int 1], M)) rfl ?_
      exact q_rtE rfl (by simp [s_in, q_b, *]) rfl

set_option maxRecDepth 10000 in
theorem c_in (X : q_X) (d : Nat) (x lo hi : Int32) (M : q_M) : q_Ev X (d + 1) 67 [.int x, .int lo, .int hi] M (some (.int (q_b (s_in x lo hi)))) (M) := by
  refine q_Ev.of rfl ?_
  show q_Rn X _ 67 (0, [some (.int x), some (.int lo), some (.int hi)], [], M) _ _
  refine q_Rn.gd 2 (x < lo) (c1 := (14, [some (.int x), some (.int lo), some (.int hi)], [], M)) (c2 := (5, [some (.int x), some (.int lo), some (.int hi)], [], M)) rfl (fun h1 => ?_) (fun h1 => ?_)
  · -- t
    refine q_Rn.gn 0 (c' := (15, [some (.int x), some (.int lo), some (.int hi)], [.int 0], M)) rfl ?_
    exact q_rtE rfl (by simp [s_in, q_b, *]) rfl
  · -- f
    refine q_Rn.gd 2 (hi < x) (c1 := (14, [some (.int x), some (.int lo), some (.int hi)], [], M)) (c2 := (10, [some (.int x), some (.int lo), some (.int hi)], [], M)) rfl (fun h2 => ?_) (fun h2 => ?_)
    · -- ft
      refine q_Rn.gn 0 (c' := (15, [some (.int x), some (.int lo), some (.int hi)], [.int 0], M)) rfl ?_
      exact q_rtE rfl (by simp [s_in, q_b, *]) rfl
    · -- ff
      refine q_Rn.gn 1 (c' := (15, [some (.int x), some (.int lo), some (.int hi)], [.int 1], M)) rfl ?_
      exact q_rtE rfl (by simp [s_in, q_b, *]) rfl

set_option maxRecDepth 10000 in
theorem c_isStep (X : q_X) (d : Nat) (x : Int32) (M : q_M) : q_Ev X (d + 2) 56 [.int x] M (some (.int (q_b (s_in x 0 5)))) (M) := by
  refine q_Ev.of rfl ?_
  show q_Rn X _ 56 (0, [some (.int x)], [], M) _ _
  refine q_Rn.gc 3 (mj := 55) (as := [.int x, .int 0, .int 5]) (pc := 6) (ls := [some (.int x)]) (st := []) (M := M) (r1 := some (.int (q_b (s_in x 0 5)))) (M1 := M) rfl (c_isWithin X d x 0 5 M) ?_
  show q_Rn X _ 56 (6, [some (.int x)], [.int (q_b (s_in x 0 5))], M) _ _
  exact q_zret rfl rfl (q_b01 _) (by rfl) rfl

set_option maxRecDepth 10000 in
theorem c_canBe (X : q_X) (d : Nat) (w x : Int32) (M : q_M) : q_Ev X (d + 2) 0 [.int w, .int x] M (some (.int (q_b (s_canBe w x)))) (M) := by
  refine q_Ev.of rfl ?_
  show q_Rn X _ 0 (0, [some (.int w), some (.int x)], [], M) _ _
  refine q_Rn.gn 0 (c' := (1, [some (.int w), some (.int x)], [.int w], M)) rfl ?_
  by_cases h1_0 : w = 0
  · -- 0
    subst h1_0
    refine q_Rn.gn 0 (c' := (32, [some (.int 0), some (.int x)], [], M)) rfl ?_
    refine q_Rn.gc 3 (mj := 55) (as := [.int x, .int 0, .int 4]) (pc := 38) (ls := [some (.int 0), some (.int x)]) (st := []) (M := M) (r1 := some (.int (q_b (s_in x 0 4)))) (M1 := M) rfl (c_isWithin X d x 0 4 M) ?_
    show q_Rn X _ 0 (38, [some (.int 0), some (.int x)], [.int (q_b (s_in x 0 4))], M) _ _
    exact q_zret rfl rfl (q_b01 _) (by simp [s_canBe, *]) rfl
  by_cases h1_1 : w = 1
  · -- 1
    subst h1_1
    refine q_Rn.gn 0 (c' := (39, [some (.int 1), some (.int x)], [], M)) rfl ?_
    refine q_Rn.gc 3 (mj := 55) (as := [.int x, .int 0, .int 2]) (pc := 45) (ls := [some (.int 1), some (.int x)]) (st := []) (M := M) (r1 := some (.int (q_b (s_in x 0 2)))) (M1 := M) rfl (c_isWithin X d x 0 2 M) ?_
    show q_Rn X _ 0 (45, [some (.int 1), some (.int x)], [.int (q_b (s_in x 0 2))], M) _ _
    exact q_zret rfl rfl (q_b01 _) (by simp [s_canBe, *]) rfl
  by_cases h1_2 : w = 2
  · -- 2
    subst h1_2
    refine q_Rn.gn 0 (c' := (46, [some (.int 2), some (.int x)], [], M)) rfl ?_
    refine q_Rn.gc 3 (mj := 55) (as := [.int x, .int 0, .int 2]) (pc := 52) (ls := [some (.int 2), some (.int x)]) (st := []) (M := M) (r1 := some (.int (q_b (s_in x 0 2)))) (M1 := M) rfl (c_isWithin X d x 0 2 M) ?_
    show q_Rn X _ 0 (52, [some (.int 2), some (.int x)], [.int (q_b (s_in x 0 2))], M) _ _
    exact q_zret rfl rfl (q_b01 _) (by simp [s_canBe, *]) rfl
  by_cases h1_3 : w = 3
  · -- 3
    subst h1_3
    refine q_Rn.gn 0 (c' := (53, [some (.int 3), some (.int x)], [], M)) rfl ?_
    refine q_Rn.gc 3 (mj := 55) (as := [.int x, .int 1, .int 99]) (pc := 60) (ls := [some (.int 3), some (.int x)]) (st := []) (M := M) (r1 := some (.int (q_b (s_in x 1 99)))) (M1 := M) rfl (c_isWithin X d x 1 99 M) ?_
    show q_Rn X _ 0 (60, [some (.int 3), some (.int x)], [.int (q_b (s_in x 1 99))], M) _ _
    exact q_zret rfl rfl (q_b01 _) (by simp [s_canBe, *]) rfl
  refine q_swd (d := 60) (lo := 0) (hi := 3) (os := #[31, 38, 45, 52]) (ex := 31) (t := 61) rfl rfl (q_sw4 h1_0 h1_1 h1_2 h1_3) ?_
  refine q_Rn.gn 0 (c' := (62, [some (.int w), some (.int x)], [.int 0], M)) rfl ?_
  exact q_rtE rfl (by simp [s_canBe, *]) rfl

