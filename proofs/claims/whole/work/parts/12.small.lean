/-! Contracts of the small methods (by program: wip/whole/c12.py) -/
/-- a number within bounds -/
def s_in (x lo hi : Int32) : Bool := !decide (x < lo) && !decide (hi < x)
/-- may a fact of a question be so -/
def s_canBe (w x : Int32) : Bool := if w = 0 then s_in x 0 4 else if w = 1 then s_in x 0 2 else if w = 2 then s_in x 0 2 else if w = 3 then s_in x 1 99 else false
def s_isIn (x k : Int32) : Bool := !decide (x &&& (1 <<< (k &&& 31)) = 0)
def s_has (n q : Int32) : Bool := !decide (q < 0) && !decide (n ≤ q) && !decide (10 ≤ q)
def s_dg (c : Int32) : Bool := s_in (c - c / 10 * 10) 1 4
def s_ch (c : Int32) : Bool := s_dg c && (s_dg (c / 10) && (s_dg (c / 10 / 10) && (s_dg (c / 10 / 10 / 10) && (s_dg (c / 10 / 10 / 10 / 10) && (s_dg (c / 10 / 10 / 10 / 10 / 10) && decide (c / 10 / 10 / 10 / 10 / 10 / 10 = 0))))))
theorem s_has_ok {n k : Nat} {x : Int32} (hx : x = nI n) (hk : k < n) (hn : n ≤ 10) : s_has x (nI k) = true := by
  subst hx
  have h1 : ¬ nI n ≤ nI k := nI_ge hk (by omega)
  have h2 : ¬ (10 : Int32) ≤ nI k := nI_ge (a := k) (b := 10) (by omega) (by omega)
  simp [s_has, nI_pos (n := k) (by omega), h1, h2]
theorem s_in_ok {a b c : Nat} (h1 : b ≤ a) (h2 : a ≤ c) (hc : c < 2 ^ 31) : s_in (nI a) (nI b) (nI c) = true := by
  simp [s_in, nI_nlt (a := a) (b := b) h1 (by omega), nI_nlt (a := c) (b := a) h2 hc]
theorem s_lit (n : Nat) : (OfNat.ofNat n : Int32) = nI n := rfl
set_option maxRecDepth 10000 in
theorem c_isWithin (X : q_X) (d : Nat) (x lo hi : Int32) (M : q_M) : q_Ev X (d + 1) 55 [.int x, .int lo, .int hi] M (some (.int (q_b (s_in x lo hi)))) (M) := by
  refine q_Ev.ofW rfl ?_
  show q_Wp X _ 55 (0, [some (.int x), some (.int lo), some (.int hi)], [], M) _
  refine q_Wp.gd 2 (x < lo) (c1 := (14, [some (.int x), some (.int lo), some (.int hi)], [], M)) (c2 := (5, [some (.int x), some (.int lo), some (.int hi)], [], M)) rfl (fun h1 => ?_) (fun h1 => ?_)
  · -- t
    refine q_Wp.gn 0 (c' := (15, [some (.int x), some (.int lo), some (.int hi)], [.int 0], M)) rfl ?_
    exact q_Wp.rt rfl rfl ⟨by simp [s_in, q_b, *], by rfl⟩
  · -- f
    refine q_Wp.gd 2 (hi < x) (c1 := (14, [some (.int x), some (.int lo), some (.int hi)], [], M)) (c2 := (10, [some (.int x), some (.int lo), some (.int hi)], [], M)) rfl (fun h2 => ?_) (fun h2 => ?_)
    · -- ft
      refine q_Wp.gn 0 (c' := (15, [some (.int x), some (.int lo), some (.int hi)], [.int 0], M)) rfl ?_
      exact q_Wp.rt rfl rfl ⟨by simp [s_in, q_b, *], by rfl⟩
    · -- ff
      refine q_Wp.gn 1 (c' := (15, [some (.int x), some (.int lo), some (.int hi)], [.int 1], M)) rfl ?_
      exact q_Wp.rt rfl rfl ⟨by simp [s_in, q_b, *], by rfl⟩

set_option maxRecDepth 10000 in
theorem c_in (X : q_X) (d : Nat) (x lo hi : Int32) (M : q_M) : q_Ev X (d + 1) 67 [.int x, .int lo, .int hi] M (some (.int (q_b (s_in x lo hi)))) (M) := by
  refine q_Ev.ofW rfl ?_
  show q_Wp X _ 67 (0, [some (.int x), some (.int lo), some (.int hi)], [], M) _
  refine q_Wp.gd 2 (x < lo) (c1 := (14, [some (.int x), some (.int lo), some (.int hi)], [], M)) (c2 := (5, [some (.int x), some (.int lo), some (.int hi)], [], M)) rfl (fun h1 => ?_) (fun h1 => ?_)
  · -- t
    refine q_Wp.gn 0 (c' := (15, [some (.int x), some (.int lo), some (.int hi)], [.int 0], M)) rfl ?_
    exact q_Wp.rt rfl rfl ⟨by simp [s_in, q_b, *], by rfl⟩
  · -- f
    refine q_Wp.gd 2 (hi < x) (c1 := (14, [some (.int x), some (.int lo), some (.int hi)], [], M)) (c2 := (10, [some (.int x), some (.int lo), some (.int hi)], [], M)) rfl (fun h2 => ?_) (fun h2 => ?_)
    · -- ft
      refine q_Wp.gn 0 (c' := (15, [some (.int x), some (.int lo), some (.int hi)], [.int 0], M)) rfl ?_
      exact q_Wp.rt rfl rfl ⟨by simp [s_in, q_b, *], by rfl⟩
    · -- ff
      refine q_Wp.gn 1 (c' := (15, [some (.int x), some (.int lo), some (.int hi)], [.int 1], M)) rfl ?_
      exact q_Wp.rt rfl rfl ⟨by simp [s_in, q_b, *], by rfl⟩

set_option maxRecDepth 10000 in
theorem c_isStep (X : q_X) (d : Nat) (x : Int32) (M : q_M) : q_Ev X (d + 2) 56 [.int x] M (some (.int (q_b (s_in x 0 5)))) (M) := by
  refine q_Ev.ofW rfl ?_
  show q_Wp X _ 56 (0, [some (.int x)], [], M) _
  refine q_Wp.gc 3 (mj := 55) (as := [.int x, .int 0, .int 5]) (pc := 6) (ls := [some (.int x)]) (st := []) (M := M) (r1 := some (.int (q_b (s_in x 0 5)))) (M1 := M) rfl (c_isWithin X d x 0 5 M) ?_
  show q_Wp X _ 56 (6, [some (.int x)], [.int (q_b (s_in x 0 5))], M) _
  exact q_Wp.zr rfl rfl (q_b01 _) ⟨by rfl, by rfl⟩

set_option maxRecDepth 10000 in
theorem c_canBe (X : q_X) (d : Nat) (w x : Int32) (M : q_M) : q_Ev X (d + 2) 0 [.int w, .int x] M (some (.int (q_b (s_canBe w x)))) (M) := by
  refine q_Ev.ofW rfl ?_
  show q_Wp X _ 0 (0, [some (.int w), some (.int x)], [], M) _
  refine q_Wp.gn 0 (c' := (1, [some (.int w), some (.int x)], [.int w], M)) rfl ?_
  by_cases h1_0 : w = 0
  · -- 0
    subst h1_0
    refine q_Wp.gn 0 (c' := (32, [some (.int 0), some (.int x)], [], M)) rfl ?_
    refine q_Wp.gc 3 (mj := 55) (as := [.int x, .int 0, .int 4]) (pc := 38) (ls := [some (.int 0), some (.int x)]) (st := []) (M := M) (r1 := some (.int (q_b (s_in x 0 4)))) (M1 := M) rfl (c_isWithin X d x 0 4 M) ?_
    show q_Wp X _ 0 (38, [some (.int 0), some (.int x)], [.int (q_b (s_in x 0 4))], M) _
    exact q_Wp.zr rfl rfl (q_b01 _) ⟨by simp [s_canBe, q_b, *], by rfl⟩
  by_cases h1_1 : w = 1
  · -- 1
    subst h1_1
    refine q_Wp.gn 0 (c' := (39, [some (.int 1), some (.int x)], [], M)) rfl ?_
    refine q_Wp.gc 3 (mj := 55) (as := [.int x, .int 0, .int 2]) (pc := 45) (ls := [some (.int 1), some (.int x)]) (st := []) (M := M) (r1 := some (.int (q_b (s_in x 0 2)))) (M1 := M) rfl (c_isWithin X d x 0 2 M) ?_
    show q_Wp X _ 0 (45, [some (.int 1), some (.int x)], [.int (q_b (s_in x 0 2))], M) _
    exact q_Wp.zr rfl rfl (q_b01 _) ⟨by simp [s_canBe, q_b, *], by rfl⟩
  by_cases h1_2 : w = 2
  · -- 2
    subst h1_2
    refine q_Wp.gn 0 (c' := (46, [some (.int 2), some (.int x)], [], M)) rfl ?_
    refine q_Wp.gc 3 (mj := 55) (as := [.int x, .int 0, .int 2]) (pc := 52) (ls := [some (.int 2), some (.int x)]) (st := []) (M := M) (r1 := some (.int (q_b (s_in x 0 2)))) (M1 := M) rfl (c_isWithin X d x 0 2 M) ?_
    show q_Wp X _ 0 (52, [some (.int 2), some (.int x)], [.int (q_b (s_in x 0 2))], M) _
    exact q_Wp.zr rfl rfl (q_b01 _) ⟨by simp [s_canBe, q_b, *], by rfl⟩
  by_cases h1_3 : w = 3
  · -- 3
    subst h1_3
    refine q_Wp.gn 0 (c' := (53, [some (.int 3), some (.int x)], [], M)) rfl ?_
    refine q_Wp.gc 3 (mj := 55) (as := [.int x, .int 1, .int 99]) (pc := 60) (ls := [some (.int 3), some (.int x)]) (st := []) (M := M) (r1 := some (.int (q_b (s_in x 1 99)))) (M1 := M) rfl (c_isWithin X d x 1 99 M) ?_
    show q_Wp X _ 0 (60, [some (.int 3), some (.int x)], [.int (q_b (s_in x 1 99))], M) _
    exact q_Wp.zr rfl rfl (q_b01 _) ⟨by simp [s_canBe, q_b, *], by rfl⟩
  refine q_Wp.sw (dd := 60) (lo := 0) (hi := 3) (os := #[31, 38, 45, 52]) (ex := 31) (t := 61) rfl rfl (q_sw4 h1_0 h1_1 h1_2 h1_3) ?_
  refine q_Wp.gn 0 (c' := (62, [some (.int w), some (.int x)], [.int 0], M)) rfl ?_
  exact q_Wp.rt rfl rfl ⟨by simp [s_canBe, q_b, *], by rfl⟩

set_option maxRecDepth 10000 in
theorem c_areChances (X : q_X) (d : Nat) (c : Int32) (M : q_M) : q_Ev X (d + 2) 1 [.int c] M (some (.int (q_b (s_ch c)))) (M) := by
  refine q_Ev.ofW rfl ?_
  show q_Wp X _ 1 (0, [some (.int c), none, none], [], M) _
  refine q_Wp.gc 12 (mj := 55) (as := [.int (c - c / 10 * 10), .int 1, .int 4]) (pc := 19) (ls := [some (.int c), some (.int c), some (.int 0)]) (st := []) (M := M) (r1 := some (.int (q_b (s_in (c - c / 10 * 10) 1 4)))) (M1 := M) rfl (c_isWithin X d (c - c / 10 * 10) 1 4 M) ?_
  show q_Wp X _ 1 (19, [some (.int c), some (.int c), some (.int 0)], [.int (q_b (s_in (c - c / 10 * 10) 1 4))], M) _
  refine q_Wp.gn0 0 (b := (s_in (c - c / 10 * 10) 1 4)) (c1 := (24, [some (.int c), some (.int c), some (.int 0)], [], M)) (c2 := (22, [some (.int c), some (.int c), some (.int 0)], [], M)) rfl (fun h1 => ?_) (fun h1 => ?_)
  · -- t
    refine q_Wp.gc 14 (mj := 55) (as := [.int ((c / 10) - (c / 10) / 10 * 10), .int 1, .int 4]) (pc := 19) (ls := [some (.int c), some (.int (c / 10)), some (.int 1)]) (st := []) (M := M) (r1 := some (.int (q_b (s_in ((c / 10) - (c / 10) / 10 * 10) 1 4)))) (M1 := M) rfl (c_isWithin X d ((c / 10) - (c / 10) / 10 * 10) 1 4 M) ?_
    show q_Wp X _ 1 (19, [some (.int c), some (.int (c / 10)), some (.int 1)], [.int (q_b (s_in ((c / 10) - (c / 10) / 10 * 10) 1 4))], M) _
    refine q_Wp.gn0 0 (b := (s_in ((c / 10) - (c / 10) / 10 * 10) 1 4)) (c1 := (24, [some (.int c), some (.int (c / 10)), some (.int 1)], [], M)) (c2 := (22, [some (.int c), some (.int (c / 10)), some (.int 1)], [], M)) rfl (fun h2 => ?_) (fun h2 => ?_)
    · -- tt
      refine q_Wp.gc 14 (mj := 55) (as := [.int (((c / 10) / 10) - ((c / 10) / 10) / 10 * 10), .int 1, .int 4]) (pc := 19) (ls := [some (.int c), some (.int ((c / 10) / 10)), some (.int 2)]) (st := []) (M := M) (r1 := some (.int (q_b (s_in (((c / 10) / 10) - ((c / 10) / 10) / 10 * 10) 1 4)))) (M1 := M) rfl (c_isWithin X d (((c / 10) / 10) - ((c / 10) / 10) / 10 * 10) 1 4 M) ?_
      show q_Wp X _ 1 (19, [some (.int c), some (.int ((c / 10) / 10)), some (.int 2)], [.int (q_b (s_in (((c / 10) / 10) - ((c / 10) / 10) / 10 * 10) 1 4))], M) _
      refine q_Wp.gn0 0 (b := (s_in (((c / 10) / 10) - ((c / 10) / 10) / 10 * 10) 1 4)) (c1 := (24, [some (.int c), some (.int ((c / 10) / 10)), some (.int 2)], [], M)) (c2 := (22, [some (.int c), some (.int ((c / 10) / 10)), some (.int 2)], [], M)) rfl (fun h3 => ?_) (fun h3 => ?_)
      · -- ttt
        refine q_Wp.gc 14 (mj := 55) (as := [.int ((((c / 10) / 10) / 10) - (((c / 10) / 10) / 10) / 10 * 10), .int 1, .int 4]) (pc := 19) (ls := [some (.int c), some (.int (((c / 10) / 10) / 10)), some (.int 3)]) (st := []) (M := M) (r1 := some (.int (q_b (s_in ((((c / 10) / 10) / 10) - (((c / 10) / 10) / 10) / 10 * 10) 1 4)))) (M1 := M) rfl (c_isWithin X d ((((c / 10) / 10) / 10) - (((c / 10) / 10) / 10) / 10 * 10) 1 4 M) ?_
        show q_Wp X _ 1 (19, [some (.int c), some (.int (((c / 10) / 10) / 10)), some (.int 3)], [.int (q_b (s_in ((((c / 10) / 10) / 10) - (((c / 10) / 10) / 10) / 10 * 10) 1 4))], M) _
        refine q_Wp.gn0 0 (b := (s_in ((((c / 10) / 10) / 10) - (((c / 10) / 10) / 10) / 10 * 10) 1 4)) (c1 := (24, [some (.int c), some (.int (((c / 10) / 10) / 10)), some (.int 3)], [], M)) (c2 := (22, [some (.int c), some (.int (((c / 10) / 10) / 10)), some (.int 3)], [], M)) rfl (fun h4 => ?_) (fun h4 => ?_)
        · -- tttt
          refine q_Wp.gc 14 (mj := 55) (as := [.int (((((c / 10) / 10) / 10) / 10) - ((((c / 10) / 10) / 10) / 10) / 10 * 10), .int 1, .int 4]) (pc := 19) (ls := [some (.int c), some (.int ((((c / 10) / 10) / 10) / 10)), some (.int 4)]) (st := []) (M := M) (r1 := some (.int (q_b (s_in (((((c / 10) / 10) / 10) / 10) - ((((c / 10) / 10) / 10) / 10) / 10 * 10) 1 4)))) (M1 := M) rfl (c_isWithin X d (((((c / 10) / 10) / 10) / 10) - ((((c / 10) / 10) / 10) / 10) / 10 * 10) 1 4 M) ?_
          show q_Wp X _ 1 (19, [some (.int c), some (.int ((((c / 10) / 10) / 10) / 10)), some (.int 4)], [.int (q_b (s_in (((((c / 10) / 10) / 10) / 10) - ((((c / 10) / 10) / 10) / 10) / 10 * 10) 1 4))], M) _
          refine q_Wp.gn0 0 (b := (s_in (((((c / 10) / 10) / 10) / 10) - ((((c / 10) / 10) / 10) / 10) / 10 * 10) 1 4)) (c1 := (24, [some (.int c), some (.int ((((c / 10) / 10) / 10) / 10)), some (.int 4)], [], M)) (c2 := (22, [some (.int c), some (.int ((((c / 10) / 10) / 10) / 10)), some (.int 4)], [], M)) rfl (fun h5 => ?_) (fun h5 => ?_)
          · -- ttttt
            refine q_Wp.gc 14 (mj := 55) (as := [.int ((((((c / 10) / 10) / 10) / 10) / 10) - (((((c / 10) / 10) / 10) / 10) / 10) / 10 * 10), .int 1, .int 4]) (pc := 19) (ls := [some (.int c), some (.int (((((c / 10) / 10) / 10) / 10) / 10)), some (.int 5)]) (st := []) (M := M) (r1 := some (.int (q_b (s_in ((((((c / 10) / 10) / 10) / 10) / 10) - (((((c / 10) / 10) / 10) / 10) / 10) / 10 * 10) 1 4)))) (M1 := M) rfl (c_isWithin X d ((((((c / 10) / 10) / 10) / 10) / 10) - (((((c / 10) / 10) / 10) / 10) / 10) / 10 * 10) 1 4 M) ?_
            show q_Wp X _ 1 (19, [some (.int c), some (.int (((((c / 10) / 10) / 10) / 10) / 10)), some (.int 5)], [.int (q_b (s_in ((((((c / 10) / 10) / 10) / 10) / 10) - (((((c / 10) / 10) / 10) / 10) / 10) / 10 * 10) 1 4))], M) _
            refine q_Wp.gn0 0 (b := (s_in ((((((c / 10) / 10) / 10) / 10) / 10) - (((((c / 10) / 10) / 10) / 10) / 10) / 10 * 10) 1 4)) (c1 := (24, [some (.int c), some (.int (((((c / 10) / 10) / 10) / 10) / 10)), some (.int 5)], [], M)) (c2 := (22, [some (.int c), some (.int (((((c / 10) / 10) / 10) / 10) / 10)), some (.int 5)], [], M)) rfl (fun h6 => ?_) (fun h6 => ?_)
            · -- tttttt
              refine q_Wp.gd 10 (¬ ((((((c / 10) / 10) / 10) / 10) / 10) / 10) = 0) (c1 := (43, [some (.int c), some (.int ((((((c / 10) / 10) / 10) / 10) / 10) / 10)), some (.int 6)], [], M)) (c2 := (39, [some (.int c), some (.int ((((((c / 10) / 10) / 10) / 10) / 10) / 10)), some (.int 6)], [], M)) rfl (fun h7 => ?_) (fun h7 => ?_)
              · -- ttttttt
                skip
                refine q_Wp.gn 0 (c' := (44, [some (.int c), some (.int ((((((c / 10) / 10) / 10) / 10) / 10) / 10)), some (.int 6)], [.int 0], M)) rfl ?_
                exact q_Wp.rt rfl rfl ⟨by simp [s_ch, s_dg, q_b, *], by rfl⟩
              · -- ttttttf
                have h7 : ((((((c / 10) / 10) / 10) / 10) / 10) / 10) = 0 := Classical.byContradiction h7
                refine q_Wp.gn 1 (c' := (44, [some (.int c), some (.int ((((((c / 10) / 10) / 10) / 10) / 10) / 10)), some (.int 6)], [.int 1], M)) rfl ?_
                exact q_Wp.rt rfl rfl ⟨by unfold s_ch s_dg; rw [h1, h2, h3, h4, h5, h6, decide_eq_true h7]; rfl, by rfl⟩
            · -- tttttf
              refine q_Wp.gn 0 (c' := (23, [some (.int c), some (.int (((((c / 10) / 10) / 10) / 10) / 10)), some (.int 5)], [.int 0], M)) rfl ?_
              exact q_Wp.rt rfl rfl ⟨by simp [s_ch, s_dg, q_b, *], by rfl⟩
          · -- ttttf
            refine q_Wp.gn 0 (c' := (23, [some (.int c), some (.int ((((c / 10) / 10) / 10) / 10)), some (.int 4)], [.int 0], M)) rfl ?_
            exact q_Wp.rt rfl rfl ⟨by simp [s_ch, s_dg, q_b, *], by rfl⟩
        · -- tttf
          refine q_Wp.gn 0 (c' := (23, [some (.int c), some (.int (((c / 10) / 10) / 10)), some (.int 3)], [.int 0], M)) rfl ?_
          exact q_Wp.rt rfl rfl ⟨by simp [s_ch, s_dg, q_b, *], by rfl⟩
      · -- ttf
        refine q_Wp.gn 0 (c' := (23, [some (.int c), some (.int ((c / 10) / 10)), some (.int 2)], [.int 0], M)) rfl ?_
        exact q_Wp.rt rfl rfl ⟨by simp [s_ch, s_dg, q_b, *], by rfl⟩
    · -- tf
      refine q_Wp.gn 0 (c' := (23, [some (.int c), some (.int (c / 10)), some (.int 1)], [.int 0], M)) rfl ?_
      exact q_Wp.rt rfl rfl ⟨by simp [s_ch, s_dg, q_b, *], by rfl⟩
  · -- f
    refine q_Wp.gn 0 (c' := (23, [some (.int c), some (.int c), some (.int 0)], [.int 0], M)) rfl ?_
    exact q_Wp.rt rfl rfl ⟨by simp [s_ch, s_dg, q_b, *], by rfl⟩

set_option maxRecDepth 10000 in
theorem c_asNumber (X : q_X) (d : Nat) (b : Bool) (M : q_M) : q_Ev X (d + 1) 57 [.int (q_b b)] M (some (.int (q_b b))) (M) := by
  refine q_Ev.ofW rfl ?_
  show q_Wp X _ 57 (0, [some (.int (q_b b))], [], M) _
  refine q_Wp.ge0 1 (b := b) (c1 := (8, [some (.int (q_b b))], [], M)) (c2 := (4, [some (.int (q_b b))], [], M)) rfl (fun h1 => ?_) (fun h1 => ?_)
  · -- t
    refine q_Wp.gn 0 (c' := (9, [some (.int (q_b b))], [.int 0], M)) rfl ?_
    exact q_Wp.rt rfl rfl ⟨by simp [q_b, *], by rfl⟩
  · -- f
    refine q_Wp.gn 1 (c' := (9, [some (.int (q_b b))], [.int 1], M)) rfl ?_
    exact q_Wp.rt rfl rfl ⟨by simp [q_b, *], by rfl⟩

set_option maxRecDepth 10000 in
theorem c_isIn (X : q_X) (d : Nat) (x k : Int32) (M : q_M) : q_Ev X (d + 1) 58 [.int x, .int k] M (some (.int (q_b (s_isIn x k)))) (M) := by
  refine q_Ev.ofW rfl ?_
  show q_Wp X _ 58 (0, [some (.int x), some (.int k)], [], M) _
  refine q_Wp.gd 5 ((x &&& (1 <<< (k &&& 31))) = 0) (c1 := (12, [some (.int x), some (.int k)], [], M)) (c2 := (8, [some (.int x), some (.int k)], [], M)) rfl (fun h1 => ?_) (fun h1 => ?_)
  · -- t
    refine q_Wp.gn 0 (c' := (13, [some (.int x), some (.int k)], [.int 0], M)) rfl ?_
    exact q_Wp.rt rfl rfl ⟨by simp [s_isIn, q_b, *], by rfl⟩
  · -- f
    refine q_Wp.gn 1 (c' := (13, [some (.int x), some (.int k)], [.int 1], M)) rfl ?_
    exact q_Wp.rt rfl rfl ⟨by simp [s_isIn, q_b, *], by rfl⟩

set_option maxRecDepth 10000 in
theorem c_has (X : q_X) (d : Nat) (q : Int32) (M : q_M) : q_Ev X (d + 1) 2 [.ref 1, .int q] M (some (.int (q_b (s_has (M.1 1 0) q)))) (M) := by
  refine q_Ev.ofW rfl ?_
  show q_Wp X _ 2 (0, [some (.ref 1), some (.int q)], [], M) _
  refine q_Wp.gd 1 (q < 0) (c1 := (22, [some (.ref 1), some (.int q)], [], M)) (c2 := (4, [some (.ref 1), some (.int q)], [], M)) rfl (fun h1 => ?_) (fun h1 => ?_)
  · -- t
    refine q_Wp.gn 0 (c' := (23, [some (.ref 1), some (.int q)], [.int 0], M)) rfl ?_
    exact q_Wp.rt rfl rfl ⟨by simp [s_has, q_b, *], by rfl⟩
  · -- f
    refine q_Wp.gd 3 ((M.1 1 0) ≤ q) (c1 := (22, [some (.ref 1), some (.int q)], [], M)) (c2 := (12, [some (.ref 1), some (.int q)], [], M)) rfl (fun h2 => ?_) (fun h2 => ?_)
    · -- ft
      refine q_Wp.gn 0 (c' := (23, [some (.ref 1), some (.int q)], [.int 0], M)) rfl ?_
      exact q_Wp.rt rfl rfl ⟨by simp [s_has, q_b, *], by rfl⟩
    · -- ff
      refine q_Wp.gd 2 (10 ≤ q) (c1 := (22, [some (.ref 1), some (.int q)], [], M)) (c2 := (18, [some (.ref 1), some (.int q)], [], M)) rfl (fun h3 => ?_) (fun h3 => ?_)
      · -- fft
        refine q_Wp.gn 0 (c' := (23, [some (.ref 1), some (.int q)], [.int 0], M)) rfl ?_
        exact q_Wp.rt rfl rfl ⟨by simp [s_has, q_b, *], by rfl⟩
      · -- fff
        refine q_Wp.gn 1 (c' := (23, [some (.ref 1), some (.int q)], [.int 1], M)) rfl ?_
        exact q_Wp.rt rfl rfl ⟨by simp [s_has, q_b, *], by rfl⟩

set_option maxRecDepth 10000 in
theorem c_row (X : q_X) (d : Nat) {n k : Nat}  (M : q_M) (hsz : M.1 1 0 = nI n) (hk : k < n) (hn : n ≤ 10)  : q_Ev X (d + 2) 7 [.ref 1, .int (nI k)] M (some (.ref (3 + k))) (M) := by
  refine q_Ev.ofW rfl ?_
  show q_Wp X _ 7 (0, [some (.ref 1), some (.int (nI k))], [], M) _
  have hh : s_has (M.1 1 0) (nI k) = true := s_has_ok hsz hk hn
  have hk10 : k < 10 := by omega
  refine q_Wp.gc 4 (mj := 2) (as := [.ref 1, .int (nI k)]) (pc := 9) (ls := [some (.ref 1), some (.int (nI k))]) (st := [.ref 2]) (M := M) (r1 := some (.int (q_b (s_has (M.1 1 0) (nI k))))) (M1 := M) rfl (c_has X d (nI k) M) ?_
  show q_Wp X _ 7 (9, [some (.ref 1), some (.int (nI k))], [.int (q_b (s_has (M.1 1 0) (nI k))), .ref 2], M) _
  refine q_Wp.cv (c' := (9, [some (.ref 1), some (.int (nI k))], [.int 1, .ref 2], M)) (by first | rw [hh, q_bt] | simp only [hh, q_bt]) ?_
  refine q_Wp.gn 2 (c' := (17, [some (.ref 1), some (.int (nI k))], [.int (nI k), .ref 2], M)) rfl ?_
  refine q_Wp.rld (i := k) rfl (rfl) rfl (by omega) (by decide) ?_
  show q_Wp X _ 7 (18, [some (.ref 1), some (.int (nI k))], [.ref (3 + k)], M) _
  exact q_Wp.rt rfl rfl ⟨by rfl, by rfl⟩

set_option maxRecDepth 10000 in
theorem c_fact (X : q_X) (d : Nat) {n k j : Nat}  (M : q_M) (hsz : M.1 1 0 = nI n) (hk : k < n) (hn : n ≤ 10) (hj : j < 11)  : q_Ev X (d + 2) 4 [.ref 1, .int (nI k), .int (nI j)] M (some (.int (M.1 (3 + k) j))) (M) := by
  refine q_Ev.ofW rfl ?_
  show q_Wp X _ 4 (0, [some (.ref 1), some (.int (nI k)), some (.int (nI j))], [], M) _
  have hh : s_has (M.1 1 0) (nI k) = true := s_has_ok hsz hk hn
  have hk10 : k < 10 := by omega
  have hw : s_in (nI j) 0 10 = true := s_in_ok (b := 0) (c := 10) (by omega) (by omega) (by omega)
  refine q_Wp.gc 2 (mj := 2) (as := [.ref 1, .int (nI k)]) (pc := 5) (ls := [some (.ref 1), some (.int (nI k)), some (.int (nI j))]) (st := []) (M := M) (r1 := some (.int (q_b (s_has (M.1 1 0) (nI k))))) (M1 := M) rfl (c_has X d (nI k) M) ?_
  show q_Wp X _ 4 (5, [some (.ref 1), some (.int (nI k)), some (.int (nI j))], [.int (q_b (s_has (M.1 1 0) (nI k)))], M) _
  refine q_Wp.cv (c' := (5, [some (.ref 1), some (.int (nI k)), some (.int (nI j))], [.int 1], M)) (by first | rw [hh, q_bt] | simp only [hh, q_bt]) ?_
  refine q_Wp.gc 4 (mj := 55) (as := [.int (nI j), .int 0, .int 10]) (pc := 15) (ls := [some (.ref 1), some (.int (nI k)), some (.int (nI j))]) (st := []) (M := M) (r1 := some (.int (q_b (s_in (nI j) 0 10)))) (M1 := M) rfl (c_isWithin X d (nI j) 0 10 M) ?_
  show q_Wp X _ 4 (15, [some (.ref 1), some (.int (nI k)), some (.int (nI j))], [.int (q_b (s_in (nI j) 0 10))], M) _
  refine q_Wp.cv (c' := (15, [some (.ref 1), some (.int (nI k)), some (.int (nI j))], [.int 1], M)) (by first | rw [hw, q_bt] | simp only [hw, q_bt]) ?_
  refine q_Wp.gn 3 (c' := (25, [some (.ref 1), some (.int (nI k)), some (.int (nI j))], [.int (nI k), .ref 2], M)) rfl ?_
  refine q_Wp.rld (i := k) rfl (rfl) rfl (by omega) (by decide) ?_
  show q_Wp X _ 4 (26, [some (.ref 1), some (.int (nI k)), some (.int (nI j))], [.ref (3 + k)], M) _
  refine q_Wp.gn 0 (c' := (27, [some (.ref 1), some (.int (nI k)), some (.int (nI j))], [.int (nI j), .ref (3 + k)], M)) rfl ?_
  refine q_Wp.ild (i := j) rfl (q_kd_bank hk10) rfl (by omega) (by decide) ?_
  show q_Wp X _ 4 (28, [some (.ref 1), some (.int (nI k)), some (.int (nI j))], [.int (M.1 (3 + k) j)], M) _
  exact q_Wp.rt rfl rfl ⟨by rfl, by rfl⟩

set_option maxRecDepth 10000 in
theorem c_put (X : q_X) (d : Nat) {n k j : Nat} (v : Int32) (M : q_M) (hsz : M.1 1 0 = nI n) (hk : k < n) (hn : n ≤ 10) (hj : j < 11)  : q_Ev X (d + 2) 5 [.ref 1, .int (nI k), .int (nI j), .int v] M (none) (q_up M (3 + k) j v) := by
  refine q_Ev.ofW rfl ?_
  show q_Wp X _ 5 (0, [some (.ref 1), some (.int (nI k)), some (.int (nI j)), some (.int v)], [], M) _
  have hh : s_has (M.1 1 0) (nI k) = true := s_has_ok hsz hk hn
  have hk10 : k < 10 := by omega
  have hw : s_in (nI j) 0 10 = true := s_in_ok (b := 0) (c := 10) (by omega) (by omega) (by omega)
  refine q_Wp.gc 2 (mj := 2) (as := [.ref 1, .int (nI k)]) (pc := 5) (ls := [some (.ref 1), some (.int (nI k)), some (.int (nI j)), some (.int v)]) (st := []) (M := M) (r1 := some (.int (q_b (s_has (M.1 1 0) (nI k))))) (M1 := M) rfl (c_has X d (nI k) M) ?_
  show q_Wp X _ 5 (5, [some (.ref 1), some (.int (nI k)), some (.int (nI j)), some (.int v)], [.int (q_b (s_has (M.1 1 0) (nI k)))], M) _
  refine q_Wp.cv (c' := (5, [some (.ref 1), some (.int (nI k)), some (.int (nI j)), some (.int v)], [.int 1], M)) (by first | rw [hh, q_bt] | simp only [hh, q_bt]) ?_
  refine q_Wp.gc 4 (mj := 55) (as := [.int (nI j), .int 0, .int 10]) (pc := 15) (ls := [some (.ref 1), some (.int (nI k)), some (.int (nI j)), some (.int v)]) (st := []) (M := M) (r1 := some (.int (q_b (s_in (nI j) 0 10)))) (M1 := M) rfl (c_isWithin X d (nI j) 0 10 M) ?_
  show q_Wp X _ 5 (15, [some (.ref 1), some (.int (nI k)), some (.int (nI j)), some (.int v)], [.int (q_b (s_in (nI j) 0 10))], M) _
  refine q_Wp.cv (c' := (15, [some (.ref 1), some (.int (nI k)), some (.int (nI j)), some (.int v)], [.int 1], M)) (by first | rw [hw, q_bt] | simp only [hw, q_bt]) ?_
  refine q_Wp.gn 3 (c' := (23, [some (.ref 1), some (.int (nI k)), some (.int (nI j)), some (.int v)], [.int (nI k), .ref 2], M)) rfl ?_
  refine q_Wp.rld (i := k) rfl (rfl) rfl (by omega) (by decide) ?_
  show q_Wp X _ 5 (24, [some (.ref 1), some (.int (nI k)), some (.int (nI j)), some (.int v)], [.ref (3 + k)], M) _
  refine q_Wp.gn 1 (c' := (26, [some (.ref 1), some (.int (nI k)), some (.int (nI j)), some (.int v)], [.int v, .int (nI j), .ref (3 + k)], M)) rfl ?_
  refine q_Wp.ist (i := j) rfl (q_kd_bank hk10) rfl (by omega) (by decide) ?_
  show q_Wp X _ 5 (27, [some (.ref 1), some (.int (nI k)), some (.int (nI j)), some (.int v)], [], q_up M (3 + k) j v) _
  exact q_Wp.rt rfl rfl ⟨by rfl, by rfl⟩

