/-! Contracts: the calls of the class (by program: wip/whole/c26.py) -/
set_option maxRecDepth 10000 in
theorem c_changeShown (X : q_X) (d : Nat) {n k : Nat} (v : Int32) (M : q_M) (hsz : M.1 1 0 = nI n) (hk : k < n) (hn : n ≤ 10)  : q_Ev X (d + 3) 6 [.ref 1, .int (nI k), .int v] M (none) (q_up M (3 + k) 4 (M.1 (3 + k) 4 + v)) := by
  refine q_Ev.ofW rfl ?_
  show q_Wp X _ 6 (0, [some (.ref 1), some (.int (nI k)), some (.int v)], [], M) _
  have hh : s_has (M.1 1 0) (nI k) = true := s_has_ok hsz hk hn
  have hk10 : k < 10 := by omega
  refine q_Wp.gc 6 (mj := 4) (as := [.ref 1, .int (nI k), .int 4]) (pc := 9) (ls := [some (.ref 1), some (.int (nI k)), some (.int v)]) (st := [.int 4, .int (nI k), .ref 1]) (M := M) (r1 := some (.int (M.1 (3 + k) 4))) (M1 := M) rfl (c_fact X d (j := 4) M hsz hk hn (by omega)) ?_
  show q_Wp X _ 6 (9, [some (.ref 1), some (.int (nI k)), some (.int v)], [.int (M.1 (3 + k) 4), .int 4, .int (nI k), .ref 1], M) _
  refine q_Wp.gc 2 (mj := 5) (as := [.ref 1, .int (nI k), .int 4, .int ((M.1 (3 + k) 4) + v)]) (pc := 14) (ls := [some (.ref 1), some (.int (nI k)), some (.int v)]) (st := []) (M := M) (r1 := none) (M1 := q_up M (3 + k) 4 ((M.1 (3 + k) 4) + v)) rfl (c_put X d (j := 4) ((M.1 (3 + k) 4) + v) M hsz hk hn (by omega)) ?_
  show q_Wp X _ 6 (14, [some (.ref 1), some (.int (nI k)), some (.int v)], [], q_up M (3 + k) 4 ((M.1 (3 + k) 4) + v)) _
  exact q_Wp.rt rfl rfl ⟨by rfl, by rfl⟩

def s_add (M : q_M) (n : Nat) (c : Int32) : q_M := q_up (q_up (q_up (q_up (q_up (q_up (q_up M 1 0 (nI (n + 1))) (3 + n) 10 (c - c / 10 * 10)) (3 + n) 9 (c / 10 - c / 10 / 10 * 10)) (3 + n) 8 (c / 10 / 10 - c / 10 / 10 / 10 * 10)) (3 + n) 7 (c / 10 / 10 / 10 - c / 10 / 10 / 10 / 10 * 10)) (3 + n) 6 (c / 10 / 10 / 10 / 10 - c / 10 / 10 / 10 / 10 / 10 * 10)) (3 + n) 5 (c / 10 / 10 / 10 / 10 / 10 - c / 10 / 10 / 10 / 10 / 10 / 10 * 10)
theorem s_add_sz (M : q_M) (n : Nat) (c : Int32) : (s_add M n c).1 1 0 = nI (n + 1) := by
  unfold s_add
  (repeat rw [q_up_ne _ _ _ (show 1 ≠ 3 + n by omega)])
  exact q_up_s _ _ _ _
set_option maxRecDepth 10000 in
theorem c_add (X : q_X) (d : Nat) {n : Nat} (hn : n < 10) (c : Int32) (M : q_M) (hsz : M.1 1 0 = nI n) : q_Ev X (d + 3) 3 [.ref 1, .int c] M (some (.int (nI n))) (s_add M n c) := by
  refine q_Ev.ofW rfl ?_
  show q_Wp X _ 3 (0, [some (.ref 1), some (.int c), none, none, none], [], M) _
  refine q_Wp.gn 1 (c' := (4, [some (.ref 1), some (.int c), none, none, none], [.int (M.1 1 0)], M)) rfl ?_
  refine q_Wp.cv (c' := (4, [some (.ref 1), some (.int c), none, none, none], [.int (nI n)], M)) (by first | rw [hsz] | simp only [hsz]) ?_
  refine q_Wp.gn 3 (c' := (10, [some (.ref 1), some (.int c), some (.int (nI n)), none, none], [.int (M.1 1 0), .ref 1], M)) rfl ?_
  refine q_Wp.cv (c' := (10, [some (.ref 1), some (.int c), some (.int (nI n)), none, none], [.int (nI n), .ref 1], M)) (by first | rw [hsz] | simp only [hsz]) ?_
  refine q_Wp.gn 1 (c' := (12, [some (.ref 1), some (.int c), some (.int (nI n)), none, none], [.int ((nI n) + 1), .ref 1], M)) rfl ?_
  refine q_Wp.cv (c' := (12, [some (.ref 1), some (.int c), some (.int (nI n)), none, none], [.int (nI (n + 1)), .ref 1], M)) (by first | rw [nI_1] | simp only [nI_1]) ?_
  refine q_Wp.gc 15 (mj := 5) (as := [.ref 1, .int (nI n), .int 10, .int (c - c / 10 * 10)]) (pc := 38) (ls := [some (.ref 1), some (.int c), some (.int (nI n)), some (.int c), some (.int 5)]) (st := []) (M := q_up M 1 0 (nI (n + 1))) (r1 := none) (M1 := q_up (q_up M 1 0 (nI (n + 1))) (3 + n) 10 (c - c / 10 * 10)) rfl (c_put X d (j := 10) (c - c / 10 * 10) (q_up M 1 0 (nI (n + 1))) (by (repeat rw [q_up_ne _ _ _ (show 1 ≠ 3 + n by omega)]); exact q_up_s _ _ _ _) (show n < n + 1 by omega) (show n + 1 ≤ 10 by omega) (by omega)) ?_
  show q_Wp X _ 3 (38, [some (.ref 1), some (.int c), some (.int (nI n)), some (.int c), some (.int 5)], [], q_up (q_up M 1 0 (nI (n + 1))) (3 + n) 10 (c - c / 10 * 10)) _
  refine q_Wp.gc 16 (mj := 5) (as := [.ref 1, .int (nI n), .int 9, .int ((c / 10) - (c / 10) / 10 * 10)]) (pc := 38) (ls := [some (.ref 1), some (.int c), some (.int (nI n)), some (.int (c / 10)), some (.int 4)]) (st := []) (M := q_up (q_up M 1 0 (nI (n + 1))) (3 + n) 10 (c - c / 10 * 10)) (r1 := none) (M1 := q_up (q_up (q_up M 1 0 (nI (n + 1))) (3 + n) 10 (c - c / 10 * 10)) (3 + n) 9 ((c / 10) - (c / 10) / 10 * 10)) rfl (c_put X d (j := 9) ((c / 10) - (c / 10) / 10 * 10) (q_up (q_up M 1 0 (nI (n + 1))) (3 + n) 10 (c - c / 10 * 10)) (by (repeat rw [q_up_ne _ _ _ (show 1 ≠ 3 + n by omega)]); exact q_up_s _ _ _ _) (show n < n + 1 by omega) (show n + 1 ≤ 10 by omega) (by omega)) ?_
  show q_Wp X _ 3 (38, [some (.ref 1), some (.int c), some (.int (nI n)), some (.int (c / 10)), some (.int 4)], [], q_up (q_up (q_up M 1 0 (nI (n + 1))) (3 + n) 10 (c - c / 10 * 10)) (3 + n) 9 ((c / 10) - (c / 10) / 10 * 10)) _
  refine q_Wp.gc 16 (mj := 5) (as := [.ref 1, .int (nI n), .int 8, .int (((c / 10) / 10) - ((c / 10) / 10) / 10 * 10)]) (pc := 38) (ls := [some (.ref 1), some (.int c), some (.int (nI n)), some (.int ((c / 10) / 10)), some (.int 3)]) (st := []) (M := q_up (q_up (q_up M 1 0 (nI (n + 1))) (3 + n) 10 (c - c / 10 * 10)) (3 + n) 9 ((c / 10) - (c / 10) / 10 * 10)) (r1 := none) (M1 := q_up (q_up (q_up (q_up M 1 0 (nI (n + 1))) (3 + n) 10 (c - c / 10 * 10)) (3 + n) 9 ((c / 10) - (c / 10) / 10 * 10)) (3 + n) 8 (((c / 10) / 10) - ((c / 10) / 10) / 10 * 10)) rfl (c_put X d (j := 8) (((c / 10) / 10) - ((c / 10) / 10) / 10 * 10) (q_up (q_up (q_up M 1 0 (nI (n + 1))) (3 + n) 10 (c - c / 10 * 10)) (3 + n) 9 ((c / 10) - (c / 10) / 10 * 10)) (by (repeat rw [q_up_ne _ _ _ (show 1 ≠ 3 + n by omega)]); exact q_up_s _ _ _ _) (show n < n + 1 by omega) (show n + 1 ≤ 10 by omega) (by omega)) ?_
  show q_Wp X _ 3 (38, [some (.ref 1), some (.int c), some (.int (nI n)), some (.int ((c / 10) / 10)), some (.int 3)], [], q_up (q_up (q_up (q_up M 1 0 (nI (n + 1))) (3 + n) 10 (c - c / 10 * 10)) (3 + n) 9 ((c / 10) - (c / 10) / 10 * 10)) (3 + n) 8 (((c / 10) / 10) - ((c / 10) / 10) / 10 * 10)) _
  refine q_Wp.gc 16 (mj := 5) (as := [.ref 1, .int (nI n), .int 7, .int ((((c / 10) / 10) / 10) - (((c / 10) / 10) / 10) / 10 * 10)]) (pc := 38) (ls := [some (.ref 1), some (.int c), some (.int (nI n)), some (.int (((c / 10) / 10) / 10)), some (.int 2)]) (st := []) (M := q_up (q_up (q_up (q_up M 1 0 (nI (n + 1))) (3 + n) 10 (c - c / 10 * 10)) (3 + n) 9 ((c / 10) - (c / 10) / 10 * 10)) (3 + n) 8 (((c / 10) / 10) - ((c / 10) / 10) / 10 * 10)) (r1 := none) (M1 := q_up (q_up (q_up (q_up (q_up M 1 0 (nI (n + 1))) (3 + n) 10 (c - c / 10 * 10)) (3 + n) 9 ((c / 10) - (c / 10) / 10 * 10)) (3 + n) 8 (((c / 10) / 10) - ((c / 10) / 10) / 10 * 10)) (3 + n) 7 ((((c / 10) / 10) / 10) - (((c / 10) / 10) / 10) / 10 * 10)) rfl (c_put X d (j := 7) ((((c / 10) / 10) / 10) - (((c / 10) / 10) / 10) / 10 * 10) (q_up (q_up (q_up (q_up M 1 0 (nI (n + 1))) (3 + n) 10 (c - c / 10 * 10)) (3 + n) 9 ((c / 10) - (c / 10) / 10 * 10)) (3 + n) 8 (((c / 10) / 10) - ((c / 10) / 10) / 10 * 10)) (by (repeat rw [q_up_ne _ _ _ (show 1 ≠ 3 + n by omega)]); exact q_up_s _ _ _ _) (show n < n + 1 by omega) (show n + 1 ≤ 10 by omega) (by omega)) ?_
  show q_Wp X _ 3 (38, [some (.ref 1), some (.int c), some (.int (nI n)), some (.int (((c / 10) / 10) / 10)), some (.int 2)], [], q_up (q_up (q_up (q_up (q_up M 1 0 (nI (n + 1))) (3 + n) 10 (c - c / 10 * 10)) (3 + n) 9 ((c / 10) - (c / 10) / 10 * 10)) (3 + n) 8 (((c / 10) / 10) - ((c / 10) / 10) / 10 * 10)) (3 + n) 7 ((((c / 10) / 10) / 10) - (((c / 10) / 10) / 10) / 10 * 10)) _
  refine q_Wp.gc 16 (mj := 5) (as := [.ref 1, .int (nI n), .int 6, .int (((((c / 10) / 10) / 10) / 10) - ((((c / 10) / 10) / 10) / 10) / 10 * 10)]) (pc := 38) (ls := [some (.ref 1), some (.int c), some (.int (nI n)), some (.int ((((c / 10) / 10) / 10) / 10)), some (.int 1)]) (st := []) (M := q_up (q_up (q_up (q_up (q_up M 1 0 (nI (n + 1))) (3 + n) 10 (c - c / 10 * 10)) (3 + n) 9 ((c / 10) - (c / 10) / 10 * 10)) (3 + n) 8 (((c / 10) / 10) - ((c / 10) / 10) / 10 * 10)) (3 + n) 7 ((((c / 10) / 10) / 10) - (((c / 10) / 10) / 10) / 10 * 10)) (r1 := none) (M1 := q_up (q_up (q_up (q_up (q_up (q_up M 1 0 (nI (n + 1))) (3 + n) 10 (c - c / 10 * 10)) (3 + n) 9 ((c / 10) - (c / 10) / 10 * 10)) (3 + n) 8 (((c / 10) / 10) - ((c / 10) / 10) / 10 * 10)) (3 + n) 7 ((((c / 10) / 10) / 10) - (((c / 10) / 10) / 10) / 10 * 10)) (3 + n) 6 (((((c / 10) / 10) / 10) / 10) - ((((c / 10) / 10) / 10) / 10) / 10 * 10)) rfl (c_put X d (j := 6) (((((c / 10) / 10) / 10) / 10) - ((((c / 10) / 10) / 10) / 10) / 10 * 10) (q_up (q_up (q_up (q_up (q_up M 1 0 (nI (n + 1))) (3 + n) 10 (c - c / 10 * 10)) (3 + n) 9 ((c / 10) - (c / 10) / 10 * 10)) (3 + n) 8 (((c / 10) / 10) - ((c / 10) / 10) / 10 * 10)) (3 + n) 7 ((((c / 10) / 10) / 10) - (((c / 10) / 10) / 10) / 10 * 10)) (by (repeat rw [q_up_ne _ _ _ (show 1 ≠ 3 + n by omega)]); exact q_up_s _ _ _ _) (show n < n + 1 by omega) (show n + 1 ≤ 10 by omega) (by omega)) ?_
  show q_Wp X _ 3 (38, [some (.ref 1), some (.int c), some (.int (nI n)), some (.int ((((c / 10) / 10) / 10) / 10)), some (.int 1)], [], q_up (q_up (q_up (q_up (q_up (q_up M 1 0 (nI (n + 1))) (3 + n) 10 (c - c / 10 * 10)) (3 + n) 9 ((c / 10) - (c / 10) / 10 * 10)) (3 + n) 8 (((c / 10) / 10) - ((c / 10) / 10) / 10 * 10)) (3 + n) 7 ((((c / 10) / 10) / 10) - (((c / 10) / 10) / 10) / 10 * 10)) (3 + n) 6 (((((c / 10) / 10) / 10) / 10) - ((((c / 10) / 10) / 10) / 10) / 10 * 10)) _
  refine q_Wp.gc 16 (mj := 5) (as := [.ref 1, .int (nI n), .int 5, .int ((((((c / 10) / 10) / 10) / 10) / 10) - (((((c / 10) / 10) / 10) / 10) / 10) / 10 * 10)]) (pc := 38) (ls := [some (.ref 1), some (.int c), some (.int (nI n)), some (.int (((((c / 10) / 10) / 10) / 10) / 10)), some (.int 0)]) (st := []) (M := q_up (q_up (q_up (q_up (q_up (q_up M 1 0 (nI (n + 1))) (3 + n) 10 (c - c / 10 * 10)) (3 + n) 9 ((c / 10) - (c / 10) / 10 * 10)) (3 + n) 8 (((c / 10) / 10) - ((c / 10) / 10) / 10 * 10)) (3 + n) 7 ((((c / 10) / 10) / 10) - (((c / 10) / 10) / 10) / 10 * 10)) (3 + n) 6 (((((c / 10) / 10) / 10) / 10) - ((((c / 10) / 10) / 10) / 10) / 10 * 10)) (r1 := none) (M1 := q_up (q_up (q_up (q_up (q_up (q_up (q_up M 1 0 (nI (n + 1))) (3 + n) 10 (c - c / 10 * 10)) (3 + n) 9 ((c / 10) - (c / 10) / 10 * 10)) (3 + n) 8 (((c / 10) / 10) - ((c / 10) / 10) / 10 * 10)) (3 + n) 7 ((((c / 10) / 10) / 10) - (((c / 10) / 10) / 10) / 10 * 10)) (3 + n) 6 (((((c / 10) / 10) / 10) / 10) - ((((c / 10) / 10) / 10) / 10) / 10 * 10)) (3 + n) 5 ((((((c / 10) / 10) / 10) / 10) / 10) - (((((c / 10) / 10) / 10) / 10) / 10) / 10 * 10)) rfl (c_put X d (j := 5) ((((((c / 10) / 10) / 10) / 10) / 10) - (((((c / 10) / 10) / 10) / 10) / 10) / 10 * 10) (q_up (q_up (q_up (q_up (q_up (q_up M 1 0 (nI (n + 1))) (3 + n) 10 (c - c / 10 * 10)) (3 + n) 9 ((c / 10) - (c / 10) / 10 * 10)) (3 + n) 8 (((c / 10) / 10) - ((c / 10) / 10) / 10 * 10)) (3 + n) 7 ((((c / 10) / 10) / 10) - (((c / 10) / 10) / 10) / 10 * 10)) (3 + n) 6 (((((c / 10) / 10) / 10) / 10) - ((((c / 10) / 10) / 10) / 10) / 10 * 10)) (by (repeat rw [q_up_ne _ _ _ (show 1 ≠ 3 + n by omega)]); exact q_up_s _ _ _ _) (show n < n + 1 by omega) (show n + 1 ≤ 10 by omega) (by omega)) ?_
  show q_Wp X _ 3 (38, [some (.ref 1), some (.int c), some (.int (nI n)), some (.int (((((c / 10) / 10) / 10) / 10) / 10)), some (.int 0)], [], q_up (q_up (q_up (q_up (q_up (q_up (q_up M 1 0 (nI (n + 1))) (3 + n) 10 (c - c / 10 * 10)) (3 + n) 9 ((c / 10) - (c / 10) / 10 * 10)) (3 + n) 8 (((c / 10) / 10) - ((c / 10) / 10) / 10 * 10)) (3 + n) 7 ((((c / 10) / 10) / 10) - (((c / 10) / 10) / 10) / 10 * 10)) (3 + n) 6 (((((c / 10) / 10) / 10) / 10) - ((((c / 10) / 10) / 10) / 10) / 10 * 10)) (3 + n) 5 ((((((c / 10) / 10) / 10) / 10) / 10) - (((((c / 10) / 10) / 10) / 10) / 10) / 10 * 10)) _
  refine q_Wp.gn 8 (c' := (50, [some (.ref 1), some (.int c), some (.int (nI n)), some (.int ((((((c / 10) / 10) / 10) / 10) / 10) / 10)), some (.int (-1))], [.int (nI n)], q_up (q_up (q_up (q_up (q_up (q_up (q_up M 1 0 (nI (n + 1))) (3 + n) 10 (c - c / 10 * 10)) (3 + n) 9 ((c / 10) - (c / 10) / 10 * 10)) (3 + n) 8 (((c / 10) / 10) - ((c / 10) / 10) / 10 * 10)) (3 + n) 7 ((((c / 10) / 10) / 10) - (((c / 10) / 10) / 10) / 10 * 10)) (3 + n) 6 (((((c / 10) / 10) / 10) / 10) - ((((c / 10) / 10) / 10) / 10) / 10 * 10)) (3 + n) 5 ((((((c / 10) / 10) / 10) / 10) / 10) - (((((c / 10) / 10) / 10) / 10) / 10) / 10 * 10))) rfl ?_
  exact q_Wp.rt rfl rfl ⟨by rfl, by rfl⟩

set_option maxRecDepth 10000 in
theorem c_question_no (X : q_X) (d : Nat) {on : Bool} {n : Nat} (hn : n ≤ 10) (kd g c lm ch : Int32) (M : q_M) (hon : M.1 23 0 = q_b on) (hsz : M.1 1 0 = nI n) (hno : (s_canBe 0 kd && (s_canBe 1 g && (s_canBe 2 c && (s_canBe 3 lm && s_ch ch)))) = true → on = false → n = 10) : q_Ev X (d + 4) 28 [.ref 0, .int kd, .int g, .int c, .int lm, .int ch] M (some (.int (if (s_canBe 0 kd && (s_canBe 1 g && (s_canBe 2 c && (s_canBe 3 lm && s_ch ch)))) = true then (if on = true then -2 else -3) else -1))) (M) := by
  refine q_Ev.ofW rfl ?_
  show q_Wp X _ 28 (0, [some (.ref 0), some (.int kd), some (.int g), some (.int c), some (.int lm), some (.int ch), none], [], M) _
  refine q_Wp.gc 2 (mj := 0) (as := [.int 0, .int kd]) (pc := 5) (ls := [some (.ref 0), some (.int kd), some (.int g), some (.int c), some (.int lm), some (.int ch), none]) (st := []) (M := M) (r1 := some (.int (q_b (s_canBe 0 kd)))) (M1 := M) rfl (c_canBe X (d + 1) 0 kd M) ?_
  show q_Wp X _ 28 (5, [some (.ref 0), some (.int kd), some (.int g), some (.int c), some (.int lm), some (.int ch), none], [.int (q_b (s_canBe 0 kd))], M) _
  refine q_Wp.ge0 0 (b := (s_canBe 0 kd)) (c1 := (16, [some (.ref 0), some (.int kd), some (.int g), some (.int c), some (.int lm), some (.int ch), none], [], M)) (c2 := (8, [some (.ref 0), some (.int kd), some (.int g), some (.int c), some (.int lm), some (.int ch), none], [], M)) rfl (fun h1 => ?_) (fun h1 => ?_)
  · -- t
    refine q_Wp.gn 0 (c' := (17, [some (.ref 0), some (.int kd), some (.int g), some (.int c), some (.int lm), some (.int ch), none], [.int (-1)], M)) rfl ?_
    exact q_Wp.rt rfl rfl ⟨by simp [*], by rfl⟩
  · -- f
    refine q_Wp.gc 2 (mj := 0) (as := [.int 1, .int g]) (pc := 13) (ls := [some (.ref 0), some (.int kd), some (.int g), some (.int c), some (.int lm), some (.int ch), none]) (st := []) (M := M) (r1 := some (.int (q_b (s_canBe 1 g)))) (M1 := M) rfl (c_canBe X (d + 1) 1 g M) ?_
    show q_Wp X _ 28 (13, [some (.ref 0), some (.int kd), some (.int g), some (.int c), some (.int lm), some (.int ch), none], [.int (q_b (s_canBe 1 g))], M) _
    refine q_Wp.gn0 0 (b := (s_canBe 1 g)) (c1 := (18, [some (.ref 0), some (.int kd), some (.int g), some (.int c), some (.int lm), some (.int ch), none], [], M)) (c2 := (16, [some (.ref 0), some (.int kd), some (.int g), some (.int c), some (.int lm), some (.int ch), none], [], M)) rfl (fun h2 => ?_) (fun h2 => ?_)
    · -- ft
      refine q_Wp.gc 2 (mj := 0) (as := [.int 2, .int c]) (pc := 23) (ls := [some (.ref 0), some (.int kd), some (.int g), some (.int c), some (.int lm), some (.int ch), none]) (st := []) (M := M) (r1 := some (.int (q_b (s_canBe 2 c)))) (M1 := M) rfl (c_canBe X (d + 1) 2 c M) ?_
      show q_Wp X _ 28 (23, [some (.ref 0), some (.int kd), some (.int g), some (.int c), some (.int lm), some (.int ch), none], [.int (q_b (s_canBe 2 c))], M) _
      refine q_Wp.ge0 0 (b := (s_canBe 2 c)) (c1 := (35, [some (.ref 0), some (.int kd), some (.int g), some (.int c), some (.int lm), some (.int ch), none], [], M)) (c2 := (26, [some (.ref 0), some (.int kd), some (.int g), some (.int c), some (.int lm), some (.int ch), none], [], M)) rfl (fun h3 => ?_) (fun h3 => ?_)
      · -- ftt
        refine q_Wp.gn 0 (c' := (36, [some (.ref 0), some (.int kd), some (.int g), some (.int c), some (.int lm), some (.int ch), none], [.int (-1)], M)) rfl ?_
        exact q_Wp.rt rfl rfl ⟨by simp [*], by rfl⟩
      · -- ftf
        refine q_Wp.gc 2 (mj := 0) (as := [.int 3, .int lm]) (pc := 32) (ls := [some (.ref 0), some (.int kd), some (.int g), some (.int c), some (.int lm), some (.int ch), none]) (st := []) (M := M) (r1 := some (.int (q_b (s_canBe 3 lm)))) (M1 := M) rfl (c_canBe X (d + 1) 3 lm M) ?_
        show q_Wp X _ 28 (32, [some (.ref 0), some (.int kd), some (.int g), some (.int c), some (.int lm), some (.int ch), none], [.int (q_b (s_canBe 3 lm))], M) _
        refine q_Wp.gn0 0 (b := (s_canBe 3 lm)) (c1 := (37, [some (.ref 0), some (.int kd), some (.int g), some (.int c), some (.int lm), some (.int ch), none], [], M)) (c2 := (35, [some (.ref 0), some (.int kd), some (.int g), some (.int c), some (.int lm), some (.int ch), none], [], M)) rfl (fun h4 => ?_) (fun h4 => ?_)
        · -- ftft
          refine q_Wp.gc 1 (mj := 1) (as := [.int ch]) (pc := 42) (ls := [some (.ref 0), some (.int kd), some (.int g), some (.int c), some (.int lm), some (.int ch), none]) (st := []) (M := M) (r1 := some (.int (q_b (s_ch ch)))) (M1 := M) rfl (c_areChances X (d + 1) ch M) ?_
          show q_Wp X _ 28 (42, [some (.ref 0), some (.int kd), some (.int g), some (.int c), some (.int lm), some (.int ch), none], [.int (q_b (s_ch ch))], M) _
          refine q_Wp.gn0 0 (b := (s_ch ch)) (c1 := (47, [some (.ref 0), some (.int kd), some (.int g), some (.int c), some (.int lm), some (.int ch), none], [], M)) (c2 := (45, [some (.ref 0), some (.int kd), some (.int g), some (.int c), some (.int lm), some (.int ch), none], [], M)) rfl (fun h5 => ?_) (fun h5 => ?_)
          · -- ftftt
            refine q_Wp.gn 2 (c' := (54, [some (.ref 0), some (.int kd), some (.int g), some (.int c), some (.int lm), some (.int ch), none], [.int (M.1 23 0)], M)) rfl ?_
            refine q_Wp.cv (c' := (54, [some (.ref 0), some (.int kd), some (.int g), some (.int c), some (.int lm), some (.int ch), none], [.int (q_b on)], M)) (by first | rw [hon] | simp only [hon]) ?_
            refine q_Wp.ge0 0 (b := on) (c1 := (60, [some (.ref 0), some (.int kd), some (.int g), some (.int c), some (.int lm), some (.int ch), none], [], M)) (c2 := (57, [some (.ref 0), some (.int kd), some (.int g), some (.int c), some (.int lm), some (.int ch), none], [], M)) rfl (fun h6 => ?_) (fun h6 => ?_)
            · -- ftfttt
              refine q_Wp.gn 2 (c' := (67, [some (.ref 0), some (.int kd), some (.int g), some (.int c), some (.int lm), some (.int ch), none], [.int (M.1 1 0)], M)) rfl ?_
              refine q_Wp.cv (c' := (67, [some (.ref 0), some (.int kd), some (.int g), some (.int c), some (.int lm), some (.int ch), none], [.int (nI n)], M)) (by first | rw [hsz] | simp only [hsz]) ?_
              refine q_Wp.gd 1 ((nI n) < 10) (c1 := (75, [some (.ref 0), some (.int kd), some (.int g), some (.int c), some (.int lm), some (.int ch), none], [], M)) (c2 := (72, [some (.ref 0), some (.int kd), some (.int g), some (.int c), some (.int lm), some (.int ch), none], [], M)) rfl (fun h7 => ?_) (fun h7 => ?_)
              · -- ftftttt
                have h7 : n < 10 := (nI_ltI (a := n) (b := 10) (by omega) (by omega)).mp h7
                exact absurd (hno (by simp [*]) (by assumption)) (by omega)
              · -- ftftttf
                have h7 : ¬ n < 10 := fun z => h7 ((nI_ltI (a := n) (b := 10) (by omega) (by omega)).mpr z)
                refine q_Wp.gn 0 (c' := (74, [some (.ref 0), some (.int kd), some (.int g), some (.int c), some (.int lm), some (.int ch), none], [.int (-3)], M)) rfl ?_
                exact q_Wp.rt rfl rfl ⟨by simp [*], by rfl⟩
            · -- ftfttf
              refine q_Wp.gn 0 (c' := (59, [some (.ref 0), some (.int kd), some (.int g), some (.int c), some (.int lm), some (.int ch), none], [.int (-2)], M)) rfl ?_
              exact q_Wp.rt rfl rfl ⟨by simp [*], by rfl⟩
          · -- ftftf
            refine q_Wp.gn 0 (c' := (46, [some (.ref 0), some (.int kd), some (.int g), some (.int c), some (.int lm), some (.int ch), none], [.int (-1)], M)) rfl ?_
            exact q_Wp.rt rfl rfl ⟨by simp [*], by rfl⟩
        · -- ftff
          refine q_Wp.gn 0 (c' := (36, [some (.ref 0), some (.int kd), some (.int g), some (.int c), some (.int lm), some (.int ch), none], [.int (-1)], M)) rfl ?_
          exact q_Wp.rt rfl rfl ⟨by simp [*], by rfl⟩
    · -- ff
      refine q_Wp.gn 0 (c' := (17, [some (.ref 0), some (.int kd), some (.int g), some (.int c), some (.int lm), some (.int ch), none], [.int (-1)], M)) rfl ?_
      exact q_Wp.rt rfl rfl ⟨by simp [*], by rfl⟩

def s_qst (M : q_M) (n : Nat) (kd g c lm ch : Int32) : q_M := q_up (q_up (q_up (q_up (s_add M n ch) (3 + n) 0 kd) (3 + n) 1 g) (3 + n) 2 c) (3 + n) 3 lm
set_option maxRecDepth 10000 in
theorem c_question_ok (X : q_X) (d : Nat) {n : Nat} (hlt : n < 10) (kd g c lm ch : Int32) (M : q_M) (hon : M.1 23 0 = 0) (hsz : M.1 1 0 = nI n) (k0 : s_canBe 0 kd = true) (k1 : s_canBe 1 g = true) (k2 : s_canBe 2 c = true) (k3 : s_canBe 3 lm = true) (k4 : s_ch ch = true) : q_Ev X (d + 4) 28 [.ref 0, .int kd, .int g, .int c, .int lm, .int ch] M (some (.int (nI n))) (s_qst M n kd g c lm ch) := by
  refine q_Ev.ofW rfl ?_
  show q_Wp X _ 28 (0, [some (.ref 0), some (.int kd), some (.int g), some (.int c), some (.int lm), some (.int ch), none], [], M) _
  refine q_Wp.gc 2 (mj := 0) (as := [.int 0, .int kd]) (pc := 5) (ls := [some (.ref 0), some (.int kd), some (.int g), some (.int c), some (.int lm), some (.int ch), none]) (st := []) (M := M) (r1 := some (.int (q_b (s_canBe 0 kd)))) (M1 := M) rfl (c_canBe X (d + 1) 0 kd M) ?_
  show q_Wp X _ 28 (5, [some (.ref 0), some (.int kd), some (.int g), some (.int c), some (.int lm), some (.int ch), none], [.int (q_b (s_canBe 0 kd))], M) _
  refine q_Wp.ge0 0 (b := (s_canBe 0 kd)) (c1 := (16, [some (.ref 0), some (.int kd), some (.int g), some (.int c), some (.int lm), some (.int ch), none], [], M)) (c2 := (8, [some (.ref 0), some (.int kd), some (.int g), some (.int c), some (.int lm), some (.int ch), none], [], M)) rfl (fun z => absurd (k0.symm.trans z) (by decide)) (fun _ => ?_)
  refine q_Wp.gc 2 (mj := 0) (as := [.int 1, .int g]) (pc := 13) (ls := [some (.ref 0), some (.int kd), some (.int g), some (.int c), some (.int lm), some (.int ch), none]) (st := []) (M := M) (r1 := some (.int (q_b (s_canBe 1 g)))) (M1 := M) rfl (c_canBe X (d + 1) 1 g M) ?_
  show q_Wp X _ 28 (13, [some (.ref 0), some (.int kd), some (.int g), some (.int c), some (.int lm), some (.int ch), none], [.int (q_b (s_canBe 1 g))], M) _
  refine q_Wp.gn0 0 (b := (s_canBe 1 g)) (c1 := (18, [some (.ref 0), some (.int kd), some (.int g), some (.int c), some (.int lm), some (.int ch), none], [], M)) (c2 := (16, [some (.ref 0), some (.int kd), some (.int g), some (.int c), some (.int lm), some (.int ch), none], [], M)) rfl (fun _ => ?_) (fun z => absurd (k1.symm.trans z) (by decide))
  refine q_Wp.gc 2 (mj := 0) (as := [.int 2, .int c]) (pc := 23) (ls := [some (.ref 0), some (.int kd), some (.int g), some (.int c), some (.int lm), some (.int ch), none]) (st := []) (M := M) (r1 := some (.int (q_b (s_canBe 2 c)))) (M1 := M) rfl (c_canBe X (d + 1) 2 c M) ?_
  show q_Wp X _ 28 (23, [some (.ref 0), some (.int kd), some (.int g), some (.int c), some (.int lm), some (.int ch), none], [.int (q_b (s_canBe 2 c))], M) _
  refine q_Wp.ge0 0 (b := (s_canBe 2 c)) (c1 := (35, [some (.ref 0), some (.int kd), some (.int g), some (.int c), some (.int lm), some (.int ch), none], [], M)) (c2 := (26, [some (.ref 0), some (.int kd), some (.int g), some (.int c), some (.int lm), some (.int ch), none], [], M)) rfl (fun z => absurd (k2.symm.trans z) (by decide)) (fun _ => ?_)
  refine q_Wp.gc 2 (mj := 0) (as := [.int 3, .int lm]) (pc := 32) (ls := [some (.ref 0), some (.int kd), some (.int g), some (.int c), some (.int lm), some (.int ch), none]) (st := []) (M := M) (r1 := some (.int (q_b (s_canBe 3 lm)))) (M1 := M) rfl (c_canBe X (d + 1) 3 lm M) ?_
  show q_Wp X _ 28 (32, [some (.ref 0), some (.int kd), some (.int g), some (.int c), some (.int lm), some (.int ch), none], [.int (q_b (s_canBe 3 lm))], M) _
  refine q_Wp.gn0 0 (b := (s_canBe 3 lm)) (c1 := (37, [some (.ref 0), some (.int kd), some (.int g), some (.int c), some (.int lm), some (.int ch), none], [], M)) (c2 := (35, [some (.ref 0), some (.int kd), some (.int g), some (.int c), some (.int lm), some (.int ch), none], [], M)) rfl (fun _ => ?_) (fun z => absurd (k3.symm.trans z) (by decide))
  refine q_Wp.gc 1 (mj := 1) (as := [.int ch]) (pc := 42) (ls := [some (.ref 0), some (.int kd), some (.int g), some (.int c), some (.int lm), some (.int ch), none]) (st := []) (M := M) (r1 := some (.int (q_b (s_ch ch)))) (M1 := M) rfl (c_areChances X (d + 1) ch M) ?_
  show q_Wp X _ 28 (42, [some (.ref 0), some (.int kd), some (.int g), some (.int c), some (.int lm), some (.int ch), none], [.int (q_b (s_ch ch))], M) _
  refine q_Wp.gn0 0 (b := (s_ch ch)) (c1 := (47, [some (.ref 0), some (.int kd), some (.int g), some (.int c), some (.int lm), some (.int ch), none], [], M)) (c2 := (45, [some (.ref 0), some (.int kd), some (.int g), some (.int c), some (.int lm), some (.int ch), none], [], M)) rfl (fun _ => ?_) (fun z => absurd (k4.symm.trans z) (by decide))
  refine q_Wp.gn 2 (c' := (54, [some (.ref 0), some (.int kd), some (.int g), some (.int c), some (.int lm), some (.int ch), none], [.int (M.1 23 0)], M)) rfl ?_
  refine q_Wp.cv (c' := (54, [some (.ref 0), some (.int kd), some (.int g), some (.int c), some (.int lm), some (.int ch), none], [.int 0], M)) (by first | rw [hon] | simp only [hon]) ?_
  refine q_Wp.gn 3 (c' := (67, [some (.ref 0), some (.int kd), some (.int g), some (.int c), some (.int lm), some (.int ch), none], [.int (M.1 1 0)], M)) rfl ?_
  refine q_Wp.cv (c' := (67, [some (.ref 0), some (.int kd), some (.int g), some (.int c), some (.int lm), some (.int ch), none], [.int (nI n)], M)) (by first | rw [hsz] | simp only [hsz]) ?_
  refine q_Wp.gd 1 ((nI n) < 10) (c1 := (75, [some (.ref 0), some (.int kd), some (.int g), some (.int c), some (.int lm), some (.int ch), none], [], M)) (c2 := (72, [some (.ref 0), some (.int kd), some (.int g), some (.int c), some (.int lm), some (.int ch), none], [], M)) rfl (fun _ => ?_) (fun z => absurd ((nI_ltI (a := n) (b := 10) (by omega) (by omega)).mpr hlt) z)
  refine q_Wp.gc 3 (mj := 3) (as := [.ref 1, .int ch]) (pc := 84) (ls := [some (.ref 0), some (.int kd), some (.int g), some (.int c), some (.int lm), some (.int ch), none]) (st := []) (M := M) (r1 := some (.int (nI n))) (M1 := s_add M n ch) rfl (c_add X d (n := n) hlt ch M hsz) ?_
  show q_Wp X _ 28 (84, [some (.ref 0), some (.int kd), some (.int g), some (.int c), some (.int lm), some (.int ch), none], [.int (nI n)], s_add M n ch) _
  refine q_Wp.gc 6 (mj := 5) (as := [.ref 1, .int (nI n), .int 0, .int kd]) (pc := 97) (ls := [some (.ref 0), some (.int kd), some (.int g), some (.int c), some (.int lm), some (.int ch), some (.int (nI n))]) (st := []) (M := s_add M n ch) (r1 := none) (M1 := q_up (s_add M n ch) (3 + n) 0 kd) rfl (c_put X (d + 1) (j := 0) kd (s_add M n ch) (by (repeat rw [q_up_ne _ _ _ (show 1 ≠ 3 + n by omega)]); exact s_add_sz _ _ _) (show n < n + 1 by omega) (show n + 1 ≤ 10 by omega) (by omega)) ?_
  show q_Wp X _ 28 (97, [some (.ref 0), some (.int kd), some (.int g), some (.int c), some (.int lm), some (.int ch), some (.int (nI n))], [], q_up (s_add M n ch) (3 + n) 0 kd) _
  refine q_Wp.gc 5 (mj := 5) (as := [.ref 1, .int (nI n), .int 1, .int g]) (pc := 108) (ls := [some (.ref 0), some (.int kd), some (.int g), some (.int c), some (.int lm), some (.int ch), some (.int (nI n))]) (st := []) (M := q_up (s_add M n ch) (3 + n) 0 kd) (r1 := none) (M1 := q_up (q_up (s_add M n ch) (3 + n) 0 kd) (3 + n) 1 g) rfl (c_put X (d + 1) (j := 1) g (q_up (s_add M n ch) (3 + n) 0 kd) (by (repeat rw [q_up_ne _ _ _ (show 1 ≠ 3 + n by omega)]); exact s_add_sz _ _ _) (show n < n + 1 by omega) (show n + 1 ≤ 10 by omega) (by omega)) ?_
  show q_Wp X _ 28 (108, [some (.ref 0), some (.int kd), some (.int g), some (.int c), some (.int lm), some (.int ch), some (.int (nI n))], [], q_up (q_up (s_add M n ch) (3 + n) 0 kd) (3 + n) 1 g) _
  refine q_Wp.gc 5 (mj := 5) (as := [.ref 1, .int (nI n), .int 2, .int c]) (pc := 119) (ls := [some (.ref 0), some (.int kd), some (.int g), some (.int c), some (.int lm), some (.int ch), some (.int (nI n))]) (st := []) (M := q_up (q_up (s_add M n ch) (3 + n) 0 kd) (3 + n) 1 g) (r1 := none) (M1 := q_up (q_up (q_up (s_add M n ch) (3 + n) 0 kd) (3 + n) 1 g) (3 + n) 2 c) rfl (c_put X (d + 1) (j := 2) c (q_up (q_up (s_add M n ch) (3 + n) 0 kd) (3 + n) 1 g) (by (repeat rw [q_up_ne _ _ _ (show 1 ≠ 3 + n by omega)]); exact s_add_sz _ _ _) (show n < n + 1 by omega) (show n + 1 ≤ 10 by omega) (by omega)) ?_
  show q_Wp X _ 28 (119, [some (.ref 0), some (.int kd), some (.int g), some (.int c), some (.int lm), some (.int ch), some (.int (nI n))], [], q_up (q_up (q_up (s_add M n ch) (3 + n) 0 kd) (3 + n) 1 g) (3 + n) 2 c) _
  refine q_Wp.gc 5 (mj := 5) (as := [.ref 1, .int (nI n), .int 3, .int lm]) (pc := 131) (ls := [some (.ref 0), some (.int kd), some (.int g), some (.int c), some (.int lm), some (.int ch), some (.int (nI n))]) (st := []) (M := q_up (q_up (q_up (s_add M n ch) (3 + n) 0 kd) (3 + n) 1 g) (3 + n) 2 c) (r1 := none) (M1 := q_up (q_up (q_up (q_up (s_add M n ch) (3 + n) 0 kd) (3 + n) 1 g) (3 + n) 2 c) (3 + n) 3 lm) rfl (c_put X (d + 1) (j := 3) lm (q_up (q_up (q_up (s_add M n ch) (3 + n) 0 kd) (3 + n) 1 g) (3 + n) 2 c) (by (repeat rw [q_up_ne _ _ _ (show 1 ≠ 3 + n by omega)]); exact s_add_sz _ _ _) (show n < n + 1 by omega) (show n + 1 ≤ 10 by omega) (by omega)) ?_
  show q_Wp X _ 28 (131, [some (.ref 0), some (.int kd), some (.int g), some (.int c), some (.int lm), some (.int ch), some (.int (nI n))], [], q_up (q_up (q_up (q_up (s_add M n ch) (3 + n) 0 kd) (3 + n) 1 g) (3 + n) 2 c) (3 + n) 3 lm) _
  refine q_Wp.gn 0 (c' := (133, [some (.ref 0), some (.int kd), some (.int g), some (.int c), some (.int lm), some (.int ch), some (.int (nI n))], [.int (nI n)], q_up (q_up (q_up (q_up (s_add M n ch) (3 + n) 0 kd) (3 + n) 1 g) (3 + n) 2 c) (3 + n) 3 lm)) rfl ?_
  exact q_Wp.rt rfl rfl ⟨by rfl, by rfl⟩

theorem s_canBe_lt {a x : Int32} (h : s_canBe a x = true) : ∃ j, j < 4 ∧ a = nI j := by
  unfold s_canBe at h
  by_cases h0 : a = 0
  · exact ⟨0, by decide, h0⟩
  by_cases h1 : a = 1
  · exact ⟨1, by decide, h1⟩
  by_cases h2 : a = 2
  · exact ⟨2, by decide, h2⟩
  by_cases h3 : a = 3
  · exact ⟨3, by decide, h3⟩
  rw [if_neg h0, if_neg h1, if_neg h2, if_neg h3] at h
  cases h
set_option maxRecDepth 10000 in
theorem c_set (X : q_X) (d : Nat) {on : Bool} {n : Nat} (hn : n ≤ 10) (q a x : Int32) (M : q_M) (hon : M.1 23 0 = q_b on) (hsz : M.1 1 0 = nI n) : q_Ev X (d + 3) 29 [.ref 0, .int q, .int a, .int x] M (some (.int (s_r3 (s_has (nI n) q && s_canBe a x) on (M.1 (3 + q.toNatClampNeg) a.toNatClampNeg)))) (s_m3 (s_has (nI n) q && s_canBe a x) on (q_up M (3 + q.toNatClampNeg) a.toNatClampNeg x) M) := by
  refine q_Ev.ofW rfl ?_
  show q_Wp X _ 29 (0, [some (.ref 0), some (.int q), some (.int a), some (.int x), none], [], M) _
  refine q_Wp.gc 3 (mj := 2) (as := [.ref 1, .int q]) (pc := 8) (ls := [some (.ref 0), some (.int q), some (.int a), some (.int x), none]) (st := []) (M := M) (r1 := some (.int (q_b (s_has (M.1 1 0) q)))) (M1 := M) rfl (c_has X (d + 1) q M) ?_
  show q_Wp X _ 29 (8, [some (.ref 0), some (.int q), some (.int a), some (.int x), none], [.int (q_b (s_has (M.1 1 0) q))], M) _
  refine q_Wp.cv (c' := (8, [some (.ref 0), some (.int q), some (.int a), some (.int x), none], [.int (q_b (s_has (nI n) q))], M)) (by first | rw [hsz] | simp only [hsz]) ?_
  refine q_Wp.ge0 0 (b := (s_has (nI n) q)) (c1 := (19, [some (.ref 0), some (.int q), some (.int a), some (.int x), none], [], M)) (c2 := (11, [some (.ref 0), some (.int q), some (.int a), some (.int x), none], [], M)) rfl (fun h1 => ?_) (fun h1 => ?_)
  · -- t
    refine q_Wp.gn 0 (c' := (20, [some (.ref 0), some (.int q), some (.int a), some (.int x), none], [.int (-1)], M)) rfl ?_
    exact q_Wp.rt rfl rfl ⟨by simp [s_r3, *], by simp [s_m3, *]⟩
  · -- f
    obtain ⟨k, hk, rfl⟩ := s_has_inv hn h1
    have hck : (nI k).toNatClampNeg = k := nI_clamp (by omega)
    refine q_Wp.gc 2 (mj := 0) (as := [.int a, .int x]) (pc := 16) (ls := [some (.ref 0), some (.int (nI k)), some (.int a), some (.int x), none]) (st := []) (M := M) (r1 := some (.int (q_b (s_canBe a x)))) (M1 := M) rfl (c_canBe X d a x M) ?_
    show q_Wp X _ 29 (16, [some (.ref 0), some (.int (nI k)), some (.int a), some (.int x), none], [.int (q_b (s_canBe a x))], M) _
    refine q_Wp.gn0 0 (b := (s_canBe a x)) (c1 := (21, [some (.ref 0), some (.int (nI k)), some (.int a), some (.int x), none], [], M)) (c2 := (19, [some (.ref 0), some (.int (nI k)), some (.int a), some (.int x), none], [], M)) rfl (fun h2 => ?_) (fun h2 => ?_)
    · -- ft
      obtain ⟨j, hj, rfl⟩ := s_canBe_lt h2
      have hcj : (nI j).toNatClampNeg = j := nI_clamp (by omega)
      refine q_Wp.gn 2 (c' := (28, [some (.ref 0), some (.int (nI k)), some (.int (nI j)), some (.int x), none], [.int (M.1 23 0)], M)) rfl ?_
      refine q_Wp.cv (c' := (28, [some (.ref 0), some (.int (nI k)), some (.int (nI j)), some (.int x), none], [.int (q_b on)], M)) (by first | rw [hon] | simp only [hon]) ?_
      refine q_Wp.ge0 0 (b := on) (c1 := (34, [some (.ref 0), some (.int (nI k)), some (.int (nI j)), some (.int x), none], [], M)) (c2 := (31, [some (.ref 0), some (.int (nI k)), some (.int (nI j)), some (.int x), none], [], M)) rfl (fun h3 => ?_) (fun h3 => ?_)
      · -- ftt
        refine q_Wp.gc 4 (mj := 4) (as := [.ref 1, .int (nI k), .int (nI j)]) (pc := 43) (ls := [some (.ref 0), some (.int (nI k)), some (.int (nI j)), some (.int x), none]) (st := []) (M := M) (r1 := some (.int (M.1 (3 + k) j))) (M1 := M) rfl (c_fact X d (j := j) M hsz hk hn (by omega)) ?_
        show q_Wp X _ 29 (43, [some (.ref 0), some (.int (nI k)), some (.int (nI j)), some (.int x), none], [.int (M.1 (3 + k) j)], M) _
        refine q_Wp.gc 6 (mj := 5) (as := [.ref 1, .int (nI k), .int (nI j), .int x]) (pc := 55) (ls := [some (.ref 0), some (.int (nI k)), some (.int (nI j)), some (.int x), some (.int (M.1 (3 + k) j))]) (st := []) (M := M) (r1 := none) (M1 := q_up M (3 + k) j x) rfl (c_put X d (j := j) x M hsz hk hn (by omega)) ?_
        show q_Wp X _ 29 (55, [some (.ref 0), some (.int (nI k)), some (.int (nI j)), some (.int x), some (.int (M.1 (3 + k) j))], [], q_up M (3 + k) j x) _
        refine q_Wp.gn 0 (c' := (57, [some (.ref 0), some (.int (nI k)), some (.int (nI j)), some (.int x), some (.int (M.1 (3 + k) j))], [.int (M.1 (3 + k) j)], q_up M (3 + k) j x)) rfl ?_
        exact q_Wp.rt rfl rfl ⟨by simp [s_r3, *], by simp [s_m3, *]⟩
      · -- ftf
        refine q_Wp.gn 0 (c' := (33, [some (.ref 0), some (.int (nI k)), some (.int (nI j)), some (.int x), none], [.int (-2)], M)) rfl ?_
        exact q_Wp.rt rfl rfl ⟨by simp [s_r3, *], by simp [s_m3, *]⟩
    · -- ff
      refine q_Wp.gn 0 (c' := (20, [some (.ref 0), some (.int (nI k)), some (.int a), some (.int x), none], [.int (-1)], M)) rfl ?_
      exact q_Wp.rt rfl rfl ⟨by simp [s_r3, *], by simp [s_m3, *]⟩

