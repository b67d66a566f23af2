/-! Contracts: the class's sets (by program: wip/whole/c16.py) -/
def s_mk : Nat → (Nat → Bool) → Nat
  | 0, _ => 0
  | i + 1, p => s_mk i p + (if p i = true then 2 ^ i else 0)
theorem s_mk_lt (p : Nat → Bool) : ∀ i, s_mk i p < 2 ^ i
  | 0 => by simp [s_mk]
  | i + 1 => by
    have := s_mk_lt p i
    rw [s_mk, Nat.pow_succ]
    split <;> omega
def s_ct : Nat → (Nat → Bool) → Nat
  | 0, _ => 0
  | i + 1, p => s_ct i p + (if p i = true then 1 else 0)
theorem s_ct_le (p : Nat → Bool) : ∀ i, s_ct i p ≤ i
  | 0 => Nat.le_refl _
  | i + 1 => by
    have := s_ct_le p i
    rw [s_ct]
    split <;> omega
def s_any : Nat → (Nat → Bool) → Bool
  | 0, _ => false
  | i + 1, p => s_any i p || p i
theorem s_1shl : ∀ i, i < 31 → (1 : Int32) <<< (nI i &&& 31) = nI (2 ^ i) := by decide +kernel
theorem s_or (a b : Nat) : nI a ||| nI b = nI (a ||| b) := by
  unfold nI
  exact Int32.toBitVec_inj.mp (by simp [Int32.toBitVec_or, Int32.toBitVec_ofNat'])
theorem s_and (a b : Nat) : nI a &&& nI b = nI (a &&& b) := by
  unfold nI
  exact Int32.toBitVec_inj.mp (by simp [Int32.toBitVec_and, Int32.toBitVec_ofNat'])
theorem s_orp {a i : Nat} (h : a < 2 ^ i) : a ||| 2 ^ i = a + 2 ^ i := by
  rw [Nat.or_comm, Nat.add_comm]
  have := Nat.two_pow_add_eq_or_of_lt h 1
  rw [Nat.mul_one] at this
  exact this.symm
theorem s_pw {n : Nat} (h : n ≤ 10) : 2 ^ n ≤ 1024 := Nat.pow_le_pow_right (by decide) h
def s_b1 (x : Int32) : Int32 := x - ((x.toUInt32 >>> ((1 : Int32).toUInt32 &&& Int32.toUInt32 31)).toInt32 &&& 1431655765)
def s_b2 (x : Int32) : Int32 := (x &&& 858993459) + ((x.toUInt32 >>> ((2 : Int32).toUInt32 &&& Int32.toUInt32 31)).toInt32 &&& 858993459)
def s_b3 (x : Int32) : Int32 := (x + (x.toUInt32 >>> ((4 : Int32).toUInt32 &&& Int32.toUInt32 31)).toInt32) &&& 252645135
def s_b4 (x : Int32) : Int32 := x + (x.toUInt32 >>> ((8 : Int32).toUInt32 &&& Int32.toUInt32 31)).toInt32
def s_b5 (x : Int32) : Int32 := x + (x.toUInt32 >>> ((16 : Int32).toUInt32 &&& Int32.toUInt32 31)).toInt32
def s_bc (x : Int32) : Int32 := s_b5 (s_b4 (s_b3 (s_b2 (s_b1 x)))) &&& 63
def s_kr (x mo : Int32) (C lo hi : Nat → Int32) : Bool := decide (s_bc x ≤ mo) && (s_in (s_bc (x &&& C 0)) (lo 0) (hi 0) && (s_in (s_bc (x &&& C 1)) (lo 1) (hi 1) && s_in (s_bc (x &&& C 2)) (lo 2) (hi 2)))
def s_kg (x t f : Int32) : Bool := (decide (x &&& t = 0) || decide (x &&& t = t)) && decide (s_bc (x &&& f) ≤ 1)
def s_kc (x a v : Int32) (T F : Nat → Int32) : Bool := decide (x &&& a = a) && (decide (x &&& v = 0) && (s_kg x (T 0) (F 0) && (s_kg x (T 1) (F 1) && s_kg x (T 2) (F 2))))
def s_not (a : Int32) : Int32 := a ^^^ (-1)
theorem s_not_e (a : Int32) : a ^^^ (-1) = s_not a := rfl
def s_r1 (a t : Int32) : Int32 := t &&& s_not a
def s_rt (a : Int32) (T : Nat → Int32) : Int32 := if s_r1 a (T 0) ≠ 0 ∧ s_r1 a (T 0) ≠ T 0 then s_r1 a (T 0) else if s_r1 a (T 1) ≠ 0 ∧ s_r1 a (T 1) ≠ T 1 then s_r1 a (T 1) else if s_r1 a (T 2) ≠ 0 ∧ s_r1 a (T 2) ≠ T 2 then s_r1 a (T 2) else 0
set_option maxRecDepth 10000 in
theorem c_bitCount (X : q_X) (d : Nat) (x : Int32) (M : q_M) : q_Ev X (d + 1) 110 [.int x] M (some (.int (s_bc x))) (M) := by
  refine q_Ev.ofW rfl ?_
  show q_Wp X _ 110 (0, [some (.int x)], [], M) _
  refine q_Wp.gn 40 (c' := (52, [some (.int (((((((x - (((x.toUInt32 >>> ((1 : Int32).toUInt32 &&& Int32.toUInt32 31)).toInt32) &&& 1431655765)) &&& 858993459) + ((((x - (((x.toUInt32 >>> ((1 : Int32).toUInt32 &&& Int32.toUInt32 31)).toInt32) &&& 1431655765)).toUInt32 >>> ((2 : Int32).toUInt32 &&& Int32.toUInt32 31)).toInt32) &&& 858993459)) + (((((x - (((x.toUInt32 >>> ((1 : Int32).toUInt32 &&& Int32.toUInt32 31)).toInt32) &&& 1431655765)) &&& 858993459) + ((((x - (((x.toUInt32 >>> ((1 : Int32).toUInt32 &&& Int32.toUInt32 31)).toInt32) &&& 1431655765)).toUInt32 >>> ((2 : Int32).toUInt32 &&& Int32.toUInt32 31)).toInt32) &&& 858993459)).toUInt32 >>> ((4 : Int32).toUInt32 &&& Int32.toUInt32 31)).toInt32)) &&& 252645135) + (((((((x - (((x.toUInt32 >>> ((1 : Int32).toUInt32 &&& Int32.toUInt32 31)).toInt32) &&& 1431655765)) &&& 858993459) + ((((x - (((x.toUInt32 >>> ((1 : Int32).toUInt32 &&& Int32.toUInt32 31)).toInt32) &&& 1431655765)).toUInt32 >>> ((2 : Int32).toUInt32 &&& Int32.toUInt32 31)).toInt32) &&& 858993459)) + (((((x - (((x.toUInt32 >>> ((1 : Int32).toUInt32 &&& Int32.toUInt32 31)).toInt32) &&& 1431655765)) &&& 858993459) + ((((x - (((x.toUInt32 >>> ((1 : Int32).toUInt32 &&& Int32.toUInt32 31)).toInt32) &&& 1431655765)).toUInt32 >>> ((2 : Int32).toUInt32 &&& Int32.toUInt32 31)).toInt32) &&& 858993459)).toUInt32 >>> ((4 : Int32).toUInt32 &&& Int32.toUInt32 31)).toInt32)) &&& 252645135).toUInt32 >>> ((8 : Int32).toUInt32 &&& Int32.toUInt32 31)).toInt32)) + ((((((((x - (((x.toUInt32 >>> ((1 : Int32).toUInt32 &&& Int32.toUInt32 31)).toInt32) &&& 1431655765)) &&& 858993459) + ((((x - (((x.toUInt32 >>> ((1 : Int32).toUInt32 &&& Int32.toUInt32 31)).toInt32) &&& 1431655765)).toUInt32 >>> ((2 : Int32).toUInt32 &&& Int32.toUInt32 31)).toInt32) &&& 858993459)) + (((((x - (((x.toUInt32 >>> ((1 : Int32).toUInt32 &&& Int32.toUInt32 31)).toInt32) &&& 1431655765)) &&& 858993459) + ((((x - (((x.toUInt32 >>> ((1 : Int32).toUInt32 &&& Int32.toUInt32 31)).toInt32) &&& 1431655765)).toUInt32 >>> ((2 : Int32).toUInt32 &&& Int32.toUInt32 31)).toInt32) &&& 858993459)).toUInt32 >>> ((4 : Int32).toUInt32 &&& Int32.toUInt32 31)).toInt32)) &&& 252645135) + (((((((x - (((x.toUInt32 >>> ((1 : Int32).toUInt32 &&& Int32.toUInt32 31)).toInt32) &&& 1431655765)) &&& 858993459) + ((((x - (((x.toUInt32 >>> ((1 : Int32).toUInt32 &&& Int32.toUInt32 31)).toInt32) &&& 1431655765)).toUInt32 >>> ((2 : Int32).toUInt32 &&& Int32.toUInt32 31)).toInt32) &&& 858993459)) + (((((x - (((x.toUInt32 >>> ((1 : Int32).toUInt32 &&& Int32.toUInt32 31)).toInt32) &&& 1431655765)) &&& 858993459) + ((((x - (((x.toUInt32 >>> ((1 : Int32).toUInt32 &&& Int32.toUInt32 31)).toInt32) &&& 1431655765)).toUInt32 >>> ((2 : Int32).toUInt32 &&& Int32.toUInt32 31)).toInt32) &&& 858993459)).toUInt32 >>> ((4 : Int32).toUInt32 &&& Int32.toUInt32 31)).toInt32)) &&& 252645135).toUInt32 >>> ((8 : Int32).toUInt32 &&& Int32.toUInt32 31)).toInt32)).toUInt32 >>> ((16 : Int32).toUInt32 &&& Int32.toUInt32 31)).toInt32)))], [.int ((((((((x - (((x.toUInt32 >>> ((1 : Int32).toUInt32 &&& Int32.toUInt32 31)).toInt32) &&& 1431655765)) &&& 858993459) + ((((x - (((x.toUInt32 >>> ((1 : Int32).toUInt32 &&& Int32.toUInt32 31)).toInt32) &&& 1431655765)).toUInt32 >>> ((2 : Int32).toUInt32 &&& Int32.toUInt32 31)).toInt32) &&& 858993459)) + (((((x - (((x.toUInt32 >>> ((1 : Int32).toUInt32 &&& Int32.toUInt32 31)).toInt32) &&& 1431655765)) &&& 858993459) + ((((x - (((x.toUInt32 >>> ((1 : Int32).toUInt32 &&& Int32.toUInt32 31)).toInt32) &&& 1431655765)).toUInt32 >>> ((2 : Int32).toUInt32 &&& Int32.toUInt32 31)).toInt32) &&& 858993459)).toUInt32 >>> ((4 : Int32).toUInt32 &&& Int32.toUInt32 31)).toInt32)) &&& 252645135) + (((((((x - (((x.toUInt32 >>> ((1 : Int32).toUInt32 &&& Int32.toUInt32 31)).toInt32) &&& 1431655765)) &&& 858993459) + ((((x - (((x.toUInt32 >>> ((1 : Int32).toUInt32 &&& Int32.toUInt32 31)).toInt32) &&& 1431655765)).toUInt32 >>> ((2 : Int32).toUInt32 &&& Int32.toUInt32 31)).toInt32) &&& 858993459)) + (((((x - (((x.toUInt32 >>> ((1 : Int32).toUInt32 &&& Int32.toUInt32 31)).toInt32) &&& 1431655765)) &&& 858993459) + ((((x - (((x.toUInt32 >>> ((1 : Int32).toUInt32 &&& Int32.toUInt32 31)).toInt32) &&& 1431655765)).toUInt32 >>> ((2 : Int32).toUInt32 &&& Int32.toUInt32 31)).toInt32) &&& 858993459)).toUInt32 >>> ((4 : Int32).toUInt32 &&& Int32.toUInt32 31)).toInt32)) &&& 252645135).toUInt32 >>> ((8 : Int32).toUInt32 &&& Int32.toUInt32 31)).toInt32)) + ((((((((x - (((x.toUInt32 >>> ((1 : Int32).toUInt32 &&& Int32.toUInt32 31)).toInt32) &&& 1431655765)) &&& 858993459) + ((((x - (((x.toUInt32 >>> ((1 : Int32).toUInt32 &&& Int32.toUInt32 31)).toInt32) &&& 1431655765)).toUInt32 >>> ((2 : Int32).toUInt32 &&& Int32.toUInt32 31)).toInt32) &&& 858993459)) + (((((x - (((x.toUInt32 >>> ((1 : Int32).toUInt32 &&& Int32.toUInt32 31)).toInt32) &&& 1431655765)) &&& 858993459) + ((((x - (((x.toUInt32 >>> ((1 : Int32).toUInt32 &&& Int32.toUInt32 31)).toInt32) &&& 1431655765)).toUInt32 >>> ((2 : Int32).toUInt32 &&& Int32.toUInt32 31)).toInt32) &&& 858993459)).toUInt32 >>> ((4 : Int32).toUInt32 &&& Int32.toUInt32 31)).toInt32)) &&& 252645135) + (((((((x - (((x.toUInt32 >>> ((1 : Int32).toUInt32 &&& Int32.toUInt32 31)).toInt32) &&& 1431655765)) &&& 858993459) + ((((x - (((x.toUInt32 >>> ((1 : Int32).toUInt32 &&& Int32.toUInt32 31)).toInt32) &&& 1431655765)).toUInt32 >>> ((2 : Int32).toUInt32 &&& Int32.toUInt32 31)).toInt32) &&& 858993459)) + (((((x - (((x.toUInt32 >>> ((1 : Int32).toUInt32 &&& Int32.toUInt32 31)).toInt32) &&& 1431655765)) &&& 858993459) + ((((x - (((x.toUInt32 >>> ((1 : Int32).toUInt32 &&& Int32.toUInt32 31)).toInt32) &&& 1431655765)).toUInt32 >>> ((2 : Int32).toUInt32 &&& Int32.toUInt32 31)).toInt32) &&& 858993459)).toUInt32 >>> ((4 : Int32).toUInt32 &&& Int32.toUInt32 31)).toInt32)) &&& 252645135).toUInt32 >>> ((8 : Int32).toUInt32 &&& Int32.toUInt32 31)).toInt32)).toUInt32 >>> ((16 : Int32).toUInt32 &&& Int32.toUInt32 31)).toInt32)) &&& 63)], M)) rfl ?_
  exact q_Wp.rt rfl rfl ⟨by rfl, by rfl⟩

theorem s_shl1 (i : Nat) : nI (2 ^ i) <<< ((1 : Int32) &&& 31) = nI (2 ^ (i + 1)) := by
  have h1 : (1 : Int32) &&& 31 = 1 := by decide
  rw [h1, Nat.pow_succ]
  have h2 : ∀ y : Int32, y <<< (1 : Int32) = y * 2 := by
    intro y
    apply Int32.toBitVec_inj.mp
    simp [Int32.toBitVec_shiftLeft, Int32.toBitVec_mul]
    bv_omega
  rw [h2, show (2 : Int32) = nI 2 from rfl, pk_mul]
theorem s_min10 {n : Nat} (h : n ≤ 10) : (if (10 : Int32) < nI n then 10 else nI n) = nI n := if_neg (nI_nlt (a := 10) (b := n) h (by decide))
theorem s_min1024 {n : Nat} (h : n ≤ 10) : (if (1024 : Int32) < nI (2 ^ n) then 1024 else nI (2 ^ n)) = nI (2 ^ n) := if_neg (nI_nlt (a := 1024) (b := 2 ^ n) (s_pw h) (by decide))
set_option maxRecDepth 10000 in
theorem c_total (X : q_X) (d : Nat) {n : Nat} (hn : n ≤ 10) (M : q_M) (hsz : M.1 17 0 = nI n) : q_Ev X (d + 1) 12 [.ref 17] M (some (.int (nI (2 ^ n)))) (M) := by
  refine q_Ev.ofW rfl ?_
  show q_Wp X _ 12 (0, [some (.ref 17)], [], M) _
  refine q_Wp.gn 2 (c' := (5, [some (.ref 17)], [.int (M.1 17 0), .int 1], M)) rfl ?_
  refine q_Wp.cv (c' := (5, [some (.ref 17)], [.int (nI n), .int 1], M)) (by first | rw [hsz] | simp only [hsz]) ?_
  refine q_Wp.gn 0 (c' := (6, [some (.ref 17)], [.int (1 <<< ((nI n) &&& 31))], M)) rfl ?_
  refine q_Wp.cv (c' := (6, [some (.ref 17)], [.int (nI (2 ^ n))], M)) (by first | rw [s_1shl n (by omega)] | simp only [s_1shl n (by omega)]) ?_
  refine q_Wp.gn 1 (c' := (12, [some (.ref 17)], [.int (if 1024 < (nI (2 ^ n)) then 1024 else (nI (2 ^ n)))], M)) rfl ?_
  refine q_Wp.cv (c' := (12, [some (.ref 17)], [.int (nI (2 ^ n))], M)) (by first | rw [s_min1024 hn] | simp only [s_min1024 hn]) ?_
  exact q_Wp.rt rfl rfl ⟨by rfl, by rfl⟩

set_option maxRecDepth 10000 in
theorem c_keepsRules (X : q_X) (d : Nat) (x : Int32) (M : q_M) : q_Ev X (d + 2) 18 [.ref 17, .int x, .ref 13] M (some (.int (q_b (s_kr x (M.1 13 0) (M.1 20) (M.1 14) (M.1 15))))) (M) := by
  refine q_Ev.ofW rfl ?_
  show q_Wp X _ 18 (0, [some (.ref 17), some (.int x), some (.ref 13), none, none], [], M) _
  refine q_Wp.gc 1 (mj := 110) (as := [.int x]) (pc := 4) (ls := [some (.ref 17), some (.int x), some (.ref 13), none, none]) (st := []) (M := M) (r1 := some (.int (s_bc x))) (M1 := M) rfl (c_bitCount X d x M) ?_
  show q_Wp X _ 18 (4, [some (.ref 17), some (.int x), some (.ref 13), none, none], [.int (s_bc x)], M) _
  refine q_Wp.gd 2 ((s_bc x) ≤ (M.1 13 0)) (c1 := (13, [some (.ref 17), some (.int x), some (.ref 13), none, none], [], M)) (c2 := (11, [some (.ref 17), some (.int x), some (.ref 13), none, none], [], M)) rfl (fun h1 => ?_) (fun h1 => ?_)
  · -- t
    refine q_Wp.gc 11 (mj := 110) (as := [.int (x &&& (M.1 20 0))]) (pc := 31) (ls := [some (.ref 17), some (.int x), some (.ref 13), some (.int 0), none]) (st := []) (M := M) (r1 := some (.int (s_bc (x &&& (M.1 20 0))))) (M1 := M) rfl (c_bitCount X d (x &&& (M.1 20 0)) M) ?_
    show q_Wp X _ 18 (31, [some (.ref 17), some (.int x), some (.ref 13), some (.int 0), none], [.int (s_bc (x &&& (M.1 20 0)))], M) _
    refine q_Wp.gc 10 (mj := 55) (as := [.int (s_bc (x &&& (M.1 20 0))), .int (M.1 14 0), .int (M.1 15 0)]) (pc := 50) (ls := [some (.ref 17), some (.int x), some (.ref 13), some (.int 0), some (.int (s_bc (x &&& (M.1 20 0))))]) (st := []) (M := M) (r1 := some (.int (q_b (s_in (s_bc (x &&& (M.1 20 0))) (M.1 14 0) (M.1 15 0))))) (M1 := M) rfl (c_isWithin X d (s_bc (x &&& (M.1 20 0))) (M.1 14 0) (M.1 15 0) M) ?_
    show q_Wp X _ 18 (50, [some (.ref 17), some (.int x), some (.ref 13), some (.int 0), some (.int (s_bc (x &&& (M.1 20 0))))], [.int (q_b (s_in (s_bc (x &&& (M.1 20 0))) (M.1 14 0) (M.1 15 0)))], M) _
    refine q_Wp.gn0 0 (b := (s_in (s_bc (x &&& (M.1 20 0))) (M.1 14 0) (M.1 15 0))) (c1 := (55, [some (.ref 17), some (.int x), some (.ref 13), some (.int 0), some (.int (s_bc (x &&& (M.1 20 0))))], [], M)) (c2 := (53, [some (.ref 17), some (.int x), some (.ref 13), some (.int 0), some (.int (s_bc (x &&& (M.1 20 0))))], [], M)) rfl (fun h2 => ?_) (fun h2 => ?_)
    · -- tt
      refine q_Wp.gc 11 (mj := 110) (as := [.int (x &&& (M.1 20 1))]) (pc := 31) (ls := [some (.ref 17), some (.int x), some (.ref 13), some (.int 1), some (.int (s_bc (x &&& (M.1 20 0))))]) (st := []) (M := M) (r1 := some (.int (s_bc (x &&& (M.1 20 1))))) (M1 := M) rfl (c_bitCount X d (x &&& (M.1 20 1)) M) ?_
      show q_Wp X _ 18 (31, [some (.ref 17), some (.int x), some (.ref 13), some (.int 1), some (.int (s_bc (x &&& (M.1 20 0))))], [.int (s_bc (x &&& (M.1 20 1)))], M) _
      refine q_Wp.gc 10 (mj := 55) (as := [.int (s_bc (x &&& (M.1 20 1))), .int (M.1 14 1), .int (M.1 15 1)]) (pc := 50) (ls := [some (.ref 17), some (.int x), some (.ref 13), some (.int 1), some (.int (s_bc (x &&& (M.1 20 1))))]) (st := []) (M := M) (r1 := some (.int (q_b (s_in (s_bc (x &&& (M.1 20 1))) (M.1 14 1) (M.1 15 1))))) (M1 := M) rfl (c_isWithin X d (s_bc (x &&& (M.1 20 1))) (M.1 14 1) (M.1 15 1) M) ?_
      show q_Wp X _ 18 (50, [some (.ref 17), some (.int x), some (.ref 13), some (.int 1), some (.int (s_bc (x &&& (M.1 20 1))))], [.int (q_b (s_in (s_bc (x &&& (M.1 20 1))) (M.1 14 1) (M.1 15 1)))], M) _
      refine q_Wp.gn0 0 (b := (s_in (s_bc (x &&& (M.1 20 1))) (M.1 14 1) (M.1 15 1))) (c1 := (55, [some (.ref 17), some (.int x), some (.ref 13), some (.int 1), some (.int (s_bc (x &&& (M.1 20 1))))], [], M)) (c2 := (53, [some (.ref 17), some (.int x), some (.ref 13), some (.int 1), some (.int (s_bc (x &&& (M.1 20 1))))], [], M)) rfl (fun h3 => ?_) (fun h3 => ?_)
      · -- ttt
        refine q_Wp.gc 11 (mj := 110) (as := [.int (x &&& (M.1 20 2))]) (pc := 31) (ls := [some (.ref 17), some (.int x), some (.ref 13), some (.int 2), some (.int (s_bc (x &&& (M.1 20 1))))]) (st := []) (M := M) (r1 := some (.int (s_bc (x &&& (M.1 20 2))))) (M1 := M) rfl (c_bitCount X d (x &&& (M.1 20 2)) M) ?_
        show q_Wp X _ 18 (31, [some (.ref 17), some (.int x), some (.ref 13), some (.int 2), some (.int (s_bc (x &&& (M.1 20 1))))], [.int (s_bc (x &&& (M.1 20 2)))], M) _
        refine q_Wp.gc 10 (mj := 55) (as := [.int (s_bc (x &&& (M.1 20 2))), .int (M.1 14 2), .int (M.1 15 2)]) (pc := 50) (ls := [some (.ref 17), some (.int x), some (.ref 13), some (.int 2), some (.int (s_bc (x &&& (M.1 20 2))))]) (st := []) (M := M) (r1 := some (.int (q_b (s_in (s_bc (x &&& (M.1 20 2))) (M.1 14 2) (M.1 15 2))))) (M1 := M) rfl (c_isWithin X d (s_bc (x &&& (M.1 20 2))) (M.1 14 2) (M.1 15 2) M) ?_
        show q_Wp X _ 18 (50, [some (.ref 17), some (.int x), some (.ref 13), some (.int 2), some (.int (s_bc (x &&& (M.1 20 2))))], [.int (q_b (s_in (s_bc (x &&& (M.1 20 2))) (M.1 14 2) (M.1 15 2)))], M) _
        refine q_Wp.gn0 0 (b := (s_in (s_bc (x &&& (M.1 20 2))) (M.1 14 2) (M.1 15 2))) (c1 := (55, [some (.ref 17), some (.int x), some (.ref 13), some (.int 2), some (.int (s_bc (x &&& (M.1 20 2))))], [], M)) (c2 := (53, [some (.ref 17), some (.int x), some (.ref 13), some (.int 2), some (.int (s_bc (x &&& (M.1 20 2))))], [], M)) rfl (fun h4 => ?_) (fun h4 => ?_)
        · -- tttt
          refine q_Wp.gn 5 (c' := (62, [some (.ref 17), some (.int x), some (.ref 13), some (.int 3), some (.int (s_bc (x &&& (M.1 20 2))))], [.int 1], M)) rfl ?_
          exact q_Wp.rt rfl rfl ⟨by simp [s_kr, q_b, *], by rfl⟩
        · -- tttf
          refine q_Wp.gn 0 (c' := (54, [some (.ref 17), some (.int x), some (.ref 13), some (.int 2), some (.int (s_bc (x &&& (M.1 20 2))))], [.int 0], M)) rfl ?_
          exact q_Wp.rt rfl rfl ⟨by simp [s_kr, q_b, *], by rfl⟩
      · -- ttf
        refine q_Wp.gn 0 (c' := (54, [some (.ref 17), some (.int x), some (.ref 13), some (.int 1), some (.int (s_bc (x &&& (M.1 20 1))))], [.int 0], M)) rfl ?_
        exact q_Wp.rt rfl rfl ⟨by simp [s_kr, q_b, *], by rfl⟩
    · -- tf
      refine q_Wp.gn 0 (c' := (54, [some (.ref 17), some (.int x), some (.ref 13), some (.int 0), some (.int (s_bc (x &&& (M.1 20 0))))], [.int 0], M)) rfl ?_
      exact q_Wp.rt rfl rfl ⟨by simp [s_kr, q_b, *], by rfl⟩
  · -- f
    refine q_Wp.gn 0 (c' := (12, [some (.ref 17), some (.int x), some (.ref 13), none, none], [.int 0], M)) rfl ?_
    exact q_Wp.rt rfl rfl ⟨by simp [s_kr, q_b, *], by rfl⟩

set_option maxRecDepth 10000 in
theorem c_keepsCompany (X : q_X) (d : Nat) (x : Int32) (M : q_M) : q_Ev X (d + 2) 19 [.ref 17, .int x] M (some (.int (q_b (s_kc x (M.1 17 1) (M.1 17 2) (M.1 18) (M.1 19))))) (M) := by
  refine q_Ev.ofW rfl ?_
  show q_Wp X _ 19 (0, [some (.ref 17), some (.int x), none, none], [], M) _
  refine q_Wp.gd 6 (¬ (x &&& (M.1 17 1)) = (M.1 17 1)) (c1 := (22, [some (.ref 17), some (.int x), none, none], [], M)) (c2 := (13, [some (.ref 17), some (.int x), none, none], [], M)) rfl (fun h1 => ?_) (fun h1 => ?_)
  · -- t
    skip
    refine q_Wp.gn 0 (c' := (23, [some (.ref 17), some (.int x), none, none], [.int 0], M)) rfl ?_
    exact q_Wp.rt rfl rfl ⟨by simp [s_kc, s_kg, q_b, *], by rfl⟩
  · -- f
    have h1 : (x &&& (M.1 17 1)) = (M.1 17 1) := Classical.byContradiction h1
    refine q_Wp.gd 4 ((x &&& (M.1 17 2)) = 0) (c1 := (24, [some (.ref 17), some (.int x), none, none], [], M)) (c2 := (22, [some (.ref 17), some (.int x), none, none], [], M)) rfl (fun h2 => ?_) (fun h2 => ?_)
    · -- ft
      refine q_Wp.gd 13 ((x &&& (M.1 18 0)) = 0) (c1 := (56, [some (.ref 17), some (.int x), some (.int 0), some (.int (x &&& (M.1 18 0)))], [], M)) (c2 := (44, [some (.ref 17), some (.int x), some (.int 0), some (.int (x &&& (M.1 18 0)))], [], M)) rfl (fun h3 => ?_) (fun h3 => ?_)
      · -- ftt
        refine q_Wp.gc 6 (mj := 110) (as := [.int (x &&& (M.1 19 0))]) (pc := 67) (ls := [some (.ref 17), some (.int x), some (.int 0), some (.int (x &&& (M.1 18 0)))]) (st := []) (M := M) (r1 := some (.int (s_bc (x &&& (M.1 19 0))))) (M1 := M) rfl (c_bitCount X d (x &&& (M.1 19 0)) M) ?_
        show q_Wp X _ 19 (67, [some (.ref 17), some (.int x), some (.int 0), some (.int (x &&& (M.1 18 0)))], [.int (s_bc (x &&& (M.1 19 0)))], M) _
        refine q_Wp.gd 1 ((s_bc (x &&& (M.1 19 0))) ≤ 1) (c1 := (73, [some (.ref 17), some (.int x), some (.int 0), some (.int (x &&& (M.1 18 0)))], [], M)) (c2 := (71, [some (.ref 17), some (.int x), some (.int 0), some (.int (x &&& (M.1 18 0)))], [], M)) rfl (fun h4 => ?_) (fun h4 => ?_)
        · -- fttt
          refine q_Wp.gd 13 ((x &&& (M.1 18 1)) = 0) (c1 := (56, [some (.ref 17), some (.int x), some (.int 1), some (.int (x &&& (M.1 18 1)))], [], M)) (c2 := (44, [some (.ref 17), some (.int x), some (.int 1), some (.int (x &&& (M.1 18 1)))], [], M)) rfl (fun h5 => ?_) (fun h5 => ?_)
          · -- ftttt
            refine q_Wp.gc 6 (mj := 110) (as := [.int (x &&& (M.1 19 1))]) (pc := 67) (ls := [some (.ref 17), some (.int x), some (.int 1), some (.int (x &&& (M.1 18 1)))]) (st := []) (M := M) (r1 := some (.int (s_bc (x &&& (M.1 19 1))))) (M1 := M) rfl (c_bitCount X d (x &&& (M.1 19 1)) M) ?_
            show q_Wp X _ 19 (67, [some (.ref 17), some (.int x), some (.int 1), some (.int (x &&& (M.1 18 1)))], [.int (s_bc (x &&& (M.1 19 1)))], M) _
            refine q_Wp.gd 1 ((s_bc (x &&& (M.1 19 1))) ≤ 1) (c1 := (73, [some (.ref 17), some (.int x), some (.int 1), some (.int (x &&& (M.1 18 1)))], [], M)) (c2 := (71, [some (.ref 17), some (.int x), some (.int 1), some (.int (x &&& (M.1 18 1)))], [], M)) rfl (fun h6 => ?_) (fun h6 => ?_)
            · -- fttttt
              refine q_Wp.gd 13 ((x &&& (M.1 18 2)) = 0) (c1 := (56, [some (.ref 17), some (.int x), some (.int 2), some (.int (x &&& (M.1 18 2)))], [], M)) (c2 := (44, [some (.ref 17), some (.int x), some (.int 2), some (.int (x &&& (M.1 18 2)))], [], M)) rfl (fun h7 => ?_) (fun h7 => ?_)
              · -- ftttttt
                refine q_Wp.gc 6 (mj := 110) (as := [.int (x &&& (M.1 19 2))]) (pc := 67) (ls := [some (.ref 17), some (.int x), some (.int 2), some (.int (x &&& (M.1 18 2)))]) (st := []) (M := M) (r1 := some (.int (s_bc (x &&& (M.1 19 2))))) (M1 := M) rfl (c_bitCount X d (x &&& (M.1 19 2)) M) ?_
                show q_Wp X _ 19 (67, [some (.ref 17), some (.int x), some (.int 2), some (.int (x &&& (M.1 18 2)))], [.int (s_bc (x &&& (M.1 19 2)))], M) _
                refine q_Wp.gd 1 ((s_bc (x &&& (M.1 19 2))) ≤ 1) (c1 := (73, [some (.ref 17), some (.int x), some (.int 2), some (.int (x &&& (M.1 18 2)))], [], M)) (c2 := (71, [some (.ref 17), some (.int x), some (.int 2), some (.int (x &&& (M.1 18 2)))], [], M)) rfl (fun h8 => ?_) (fun h8 => ?_)
                · -- fttttttt
                  refine q_Wp.gn 5 (c' := (80, [some (.ref 17), some (.int x), some (.int 3), some (.int (x &&& (M.1 18 2)))], [.int 1], M)) rfl ?_
                  exact q_Wp.rt rfl rfl ⟨by simp [s_kc, s_kg, q_b, *], by rfl⟩
                · -- fttttttf
                  refine q_Wp.gn 0 (c' := (72, [some (.ref 17), some (.int x), some (.int 2), some (.int (x &&& (M.1 18 2)))], [.int 0], M)) rfl ?_
                  exact q_Wp.rt rfl rfl ⟨by simp [s_kc, s_kg, q_b, *], by rfl⟩
              · -- ftttttf
                refine q_Wp.gd 5 ((x &&& (M.1 18 2)) = (M.1 18 2)) (c1 := (56, [some (.ref 17), some (.int x), some (.int 2), some (.int (x &&& (M.1 18 2)))], [], M)) (c2 := (54, [some (.ref 17), some (.int x), some (.int 2), some (.int (x &&& (M.1 18 2)))], [], M)) rfl (fun h9 => ?_) (fun h9 => ?_)
                · -- ftttttft
                  refine q_Wp.gc 6 (mj := 110) (as := [.int (x &&& (M.1 19 2))]) (pc := 67) (ls := [some (.ref 17), some (.int x), some (.int 2), some (.int (x &&& (M.1 18 2)))]) (st := []) (M := M) (r1 := some (.int (s_bc (x &&& (M.1 19 2))))) (M1 := M) rfl (c_bitCount X d (x &&& (M.1 19 2)) M) ?_
                  show q_Wp X _ 19 (67, [some (.ref 17), some (.int x), some (.int 2), some (.int (x &&& (M.1 18 2)))], [.int (s_bc (x &&& (M.1 19 2)))], M) _
                  refine q_Wp.gd 1 ((s_bc (x &&& (M.1 19 2))) ≤ 1) (c1 := (73, [some (.ref 17), some (.int x), some (.int 2), some (.int (x &&& (M.1 18 2)))], [], M)) (c2 := (71, [some (.ref 17), some (.int x), some (.int 2), some (.int (x &&& (M.1 18 2)))], [], M)) rfl (fun h10 => ?_) (fun h10 => ?_)
                  · -- ftttttftt
                    refine q_Wp.gn 5 (c' := (80, [some (.ref 17), some (.int x), some (.int 3), some (.int (x &&& (M.1 18 2)))], [.int 1], M)) rfl ?_
                    exact q_Wp.rt rfl rfl ⟨by simp [s_kc, s_kg, q_b, *], by rfl⟩
                  · -- ftttttftf
                    refine q_Wp.gn 0 (c' := (72, [some (.ref 17), some (.int x), some (.int 2), some (.int (x &&& (M.1 18 2)))], [.int 0], M)) rfl ?_
                    exact q_Wp.rt rfl rfl ⟨by simp [s_kc, s_kg, q_b, *], by rfl⟩
                · -- ftttttff
                  refine q_Wp.gn 0 (c' := (55, [some (.ref 17), some (.int x), some (.int 2), some (.int (x &&& (M.1 18 2)))], [.int 0], M)) rfl ?_
                  exact q_Wp.rt rfl rfl ⟨by simp [s_kc, s_kg, q_b, *], by rfl⟩
            · -- fttttf
              refine q_Wp.gn 0 (c' := (72, [some (.ref 17), some (.int x), some (.int 1), some (.int (x &&& (M.1 18 1)))], [.int 0], M)) rfl ?_
              exact q_Wp.rt rfl rfl ⟨by simp [s_kc, s_kg, q_b, *], by rfl⟩
          · -- ftttf
            refine q_Wp.gd 5 ((x &&& (M.1 18 1)) = (M.1 18 1)) (c1 := (56, [some (.ref 17), some (.int x), some (.int 1), some (.int (x &&& (M.1 18 1)))], [], M)) (c2 := (54, [some (.ref 17), some (.int x), some (.int 1), some (.int (x &&& (M.1 18 1)))], [], M)) rfl (fun h11 => ?_) (fun h11 => ?_)
            · -- ftttft
              refine q_Wp.gc 6 (mj := 110) (as := [.int (x &&& (M.1 19 1))]) (pc := 67) (ls := [some (.ref 17), some (.int x), some (.int 1), some (.int (x &&& (M.1 18 1)))]) (st := []) (M := M) (r1 := some (.int (s_bc (x &&& (M.1 19 1))))) (M1 := M) rfl (c_bitCount X d (x &&& (M.1 19 1)) M) ?_
              show q_Wp X _ 19 (67, [some (.ref 17), some (.int x), some (.int 1), some (.int (x &&& (M.1 18 1)))], [.int (s_bc (x &&& (M.1 19 1)))], M) _
              refine q_Wp.gd 1 ((s_bc (x &&& (M.1 19 1))) ≤ 1) (c1 := (73, [some (.ref 17), some (.int x), some (.int 1), some (.int (x &&& (M.1 18 1)))], [], M)) (c2 := (71, [some (.ref 17), some (.int x), some (.int 1), some (.int (x &&& (M.1 18 1)))], [], M)) rfl (fun h12 => ?_) (fun h12 => ?_)
              · -- ftttftt
                refine q_Wp.gd 13 ((x &&& (M.1 18 2)) = 0) (c1 := (56, [some (.ref 17), some (.int x), some (.int 2), some (.int (x &&& (M.1 18 2)))], [], M)) (c2 := (44, [some (.ref 17), some (.int x), some (.int 2), some (.int (x &&& (M.1 18 2)))], [], M)) rfl (fun h13 => ?_) (fun h13 => ?_)
                · -- ftttfttt
                  refine q_Wp.gc 6 (mj := 110) (as := [.int (x &&& (M.1 19 2))]) (pc := 67) (ls := [some (.ref 17), some (.int x), some (.int 2), some (.int (x &&& (M.1 18 2)))]) (st := []) (M := M) (r1 := some (.int (s_bc (x &&& (M.1 19 2))))) (M1 := M) rfl (c_bitCount X d (x &&& (M.1 19 2)) M) ?_
                  show q_Wp X _ 19 (67, [some (.ref 17), some (.int x), some (.int 2), some (.int (x &&& (M.1 18 2)))], [.int (s_bc (x &&& (M.1 19 2)))], M) _
                  refine q_Wp.gd 1 ((s_bc (x &&& (M.1 19 2))) ≤ 1) (c1 := (73, [some (.ref 17), some (.int x), some (.int 2), some (.int (x &&& (M.1 18 2)))], [], M)) (c2 := (71, [some (.ref 17), some (.int x), some (.int 2), some (.int (x &&& (M.1 18 2)))], [], M)) rfl (fun h14 => ?_) (fun h14 => ?_)
                  · -- ftttftttt
                    refine q_Wp.gn 5 (c' := (80, [some (.ref 17), some (.int x), some (.int 3), some (.int (x &&& (M.1 18 2)))], [.int 1], M)) rfl ?_
                    exact q_Wp.rt rfl rfl ⟨by simp [s_kc, s_kg, q_b, *], by rfl⟩
                  · -- ftttftttf
                    refine q_Wp.gn 0 (c' := (72, [some (.ref 17), some (.int x), some (.int 2), some (.int (x &&& (M.1 18 2)))], [.int 0], M)) rfl ?_
                    exact q_Wp.rt rfl rfl ⟨by simp [s_kc, s_kg, q_b, *], by rfl⟩
                · -- ftttfttf
                  refine q_Wp.gd 5 ((x &&& (M.1 18 2)) = (M.1 18 2)) (c1 := (56, [some (.ref 17), some (.int x), some (.int 2), some (.int (x &&& (M.1 18 2)))], [], M)) (c2 := (54, [some (.ref 17), some (.int x), some (.int 2), some (.int (x &&& (M.1 18 2)))], [], M)) rfl (fun h15 => ?_) (fun h15 => ?_)
                  · -- ftttfttft
                    refine q_Wp.gc 6 (mj := 110) (as := [.int (x &&& (M.1 19 2))]) (pc := 67) (ls := [some (.ref 17), some (.int x), some (.int 2), some (.int (x &&& (M.1 18 2)))]) (st := []) (M := M) (r1 := some (.int (s_bc (x &&& (M.1 19 2))))) (M1 := M) rfl (c_bitCount X d (x &&& (M.1 19 2)) M) ?_
                    show q_Wp X _ 19 (67, [some (.ref 17), some (.int x), some (.int 2), some (.int (x &&& (M.1 18 2)))], [.int (s_bc (x &&& (M.1 19 2)))], M) _
                    refine q_Wp.gd 1 ((s_bc (x &&& (M.1 19 2))) ≤ 1) (c1 := (73, [some (.ref 17), some (.int x), some (.int 2), some (.int (x &&& (M.1 18 2)))], [], M)) (c2 := (71, [some (.ref 17), some (.int x), some (.int 2), some (.int (x &&& (M.1 18 2)))], [], M)) rfl (fun h16 => ?_) (fun h16 => ?_)
                    · -- ftttfttftt
                      refine q_Wp.gn 5 (c' := (80, [some (.ref 17), some (.int x), some (.int 3), some (.int (x &&& (M.1 18 2)))], [.int 1], M)) rfl ?_
                      exact q_Wp.rt rfl rfl ⟨by simp [s_kc, s_kg, q_b, *], by rfl⟩
                    · -- ftttfttftf
                      refine q_Wp.gn 0 (c' := (72, [some (.ref 17), some (.int x), some (.int 2), some (.int (x &&& (M.1 18 2)))], [.int 0], M)) rfl ?_
                      exact q_Wp.rt rfl rfl ⟨by simp [s_kc, s_kg, q_b, *], by rfl⟩
                  · -- ftttfttff
                    refine q_Wp.gn 0 (c' := (55, [some (.ref 17), some (.int x), some (.int 2), some (.int (x &&& (M.1 18 2)))], [.int 0], M)) rfl ?_
                    exact q_Wp.rt rfl rfl ⟨by simp [s_kc, s_kg, q_b, *], by rfl⟩
              · -- ftttftf
                refine q_Wp.gn 0 (c' := (72, [some (.ref 17), some (.int x), some (.int 1), some (.int (x &&& (M.1 18 1)))], [.int 0], M)) rfl ?_
                exact q_Wp.rt rfl rfl ⟨by simp [s_kc, s_kg, q_b, *], by rfl⟩
            · -- ftttff
              refine q_Wp.gn 0 (c' := (55, [some (.ref 17), some (.int x), some (.int 1), some (.int (x &&& (M.1 18 1)))], [.int 0], M)) rfl ?_
              exact q_Wp.rt rfl rfl ⟨by simp [s_kc, s_kg, q_b, *], by rfl⟩
        · -- fttf
          refine q_Wp.gn 0 (c' := (72, [some (.ref 17), some (.int x), some (.int 0), some (.int (x &&& (M.1 18 0)))], [.int 0], M)) rfl ?_
          exact q_Wp.rt rfl rfl ⟨by simp [s_kc, s_kg, q_b, *], by rfl⟩
      · -- ftf
        refine q_Wp.gd 5 ((x &&& (M.1 18 0)) = (M.1 18 0)) (c1 := (56, [some (.ref 17), some (.int x), some (.int 0), some (.int (x &&& (M.1 18 0)))], [], M)) (c2 := (54, [some (.ref 17), some (.int x), some (.int 0), some (.int (x &&& (M.1 18 0)))], [], M)) rfl (fun h17 => ?_) (fun h17 => ?_)
        · -- ftft
          refine q_Wp.gc 6 (mj := 110) (as := [.int (x &&& (M.1 19 0))]) (pc := 67) (ls := [some (.ref 17), some (.int x), some (.int 0), some (.int (x &&& (M.1 18 0)))]) (st := []) (M := M) (r1 := some (.int (s_bc (x &&& (M.1 19 0))))) (M1 := M) rfl (c_bitCount X d (x &&& (M.1 19 0)) M) ?_
          show q_Wp X _ 19 (67, [some (.ref 17), some (.int x), some (.int 0), some (.int (x &&& (M.1 18 0)))], [.int (s_bc (x &&& (M.1 19 0)))], M) _
          refine q_Wp.gd 1 ((s_bc (x &&& (M.1 19 0))) ≤ 1) (c1 := (73, [some (.ref 17), some (.int x), some (.int 0), some (.int (x &&& (M.1 18 0)))], [], M)) (c2 := (71, [some (.ref 17), some (.int x), some (.int 0), some (.int (x &&& (M.1 18 0)))], [], M)) rfl (fun h18 => ?_) (fun h18 => ?_)
          · -- ftftt
            refine q_Wp.gd 13 ((x &&& (M.1 18 1)) = 0) (c1 := (56, [some (.ref 17), some (.int x), some (.int 1), some (.int (x &&& (M.1 18 1)))], [], M)) (c2 := (44, [some (.ref 17), some (.int x), some (.int 1), some (.int (x &&& (M.1 18 1)))], [], M)) rfl (fun h19 => ?_) (fun h19 => ?_)
            · -- ftfttt
              refine q_Wp.gc 6 (mj := 110) (as := [.int (x &&& (M.1 19 1))]) (pc := 67) (ls := [some (.ref 17), some (.int x), some (.int 1), some (.int (x &&& (M.1 18 1)))]) (st := []) (M := M) (r1 := some (.int (s_bc (x &&& (M.1 19 1))))) (M1 := M) rfl (c_bitCount X d (x &&& (M.1 19 1)) M) ?_
              show q_Wp X _ 19 (67, [some (.ref 17), some (.int x), some (.int 1), some (.int (x &&& (M.1 18 1)))], [.int (s_bc (x &&& (M.1 19 1)))], M) _
              refine q_Wp.gd 1 ((s_bc (x &&& (M.1 19 1))) ≤ 1) (c1 := (73, [some (.ref 17), some (.int x), some (.int 1), some (.int (x &&& (M.1 18 1)))], [], M)) (c2 := (71, [some (.ref 17), some (.int x), some (.int 1), some (.int (x &&& (M.1 18 1)))], [], M)) rfl (fun h20 => ?_) (fun h20 => ?_)
              · -- ftftttt
                refine q_Wp.gd 13 ((x &&& (M.1 18 2)) = 0) (c1 := (56, [some (.ref 17), some (.int x), some (.int 2), some (.int (x &&& (M.1 18 2)))], [], M)) (c2 := (44, [some (.ref 17), some (.int x), some (.int 2), some (.int (x &&& (M.1 18 2)))], [], M)) rfl (fun h21 => ?_) (fun h21 => ?_)
                · -- ftfttttt
                  refine q_Wp.gc 6 (mj := 110) (as := [.int (x &&& (M.1 19 2))]) (pc := 67) (ls := [some (.ref 17), some (.int x), some (.int 2), some (.int (x &&& (M.1 18 2)))]) (st := []) (M := M) (r1 := some (.int (s_bc (x &&& (M.1 19 2))))) (M1 := M) rfl (c_bitCount X d (x &&& (M.1 19 2)) M) ?_
                  show q_Wp X _ 19 (67, [some (.ref 17), some (.int x), some (.int 2), some (.int (x &&& (M.1 18 2)))], [.int (s_bc (x &&& (M.1 19 2)))], M) _
                  refine q_Wp.gd 1 ((s_bc (x &&& (M.1 19 2))) ≤ 1) (c1 := (73, [some (.ref 17), some (.int x), some (.int 2), some (.int (x &&& (M.1 18 2)))], [], M)) (c2 := (71, [some (.ref 17), some (.int x), some (.int 2), some (.int (x &&& (M.1 18 2)))], [], M)) rfl (fun h22 => ?_) (fun h22 => ?_)
                  · -- ftftttttt
                    refine q_Wp.gn 5 (c' := (80, [some (.ref 17), some (.int x), some (.int 3), some (.int (x &&& (M.1 18 2)))], [.int 1], M)) rfl ?_
                    exact q_Wp.rt rfl rfl ⟨by simp [s_kc, s_kg, q_b, *], by rfl⟩
                  · -- ftftttttf
                    refine q_Wp.gn 0 (c' := (72, [some (.ref 17), some (.int x), some (.int 2), some (.int (x &&& (M.1 18 2)))], [.int 0], M)) rfl ?_
                    exact q_Wp.rt rfl rfl ⟨by simp [s_kc, s_kg, q_b, *], by rfl⟩
                · -- ftfttttf
                  refine q_Wp.gd 5 ((x &&& (M.1 18 2)) = (M.1 18 2)) (c1 := (56, [some (.ref 17), some (.int x), some (.int 2), some (.int (x &&& (M.1 18 2)))], [], M)) (c2 := (54, [some (.ref 17), some (.int x), some (.int 2), some (.int (x &&& (M.1 18 2)))], [], M)) rfl (fun h23 => ?_) (fun h23 => ?_)
                  · -- ftfttttft
                    refine q_Wp.gc 6 (mj := 110) (as := [.int (x &&& (M.1 19 2))]) (pc := 67) (ls := [some (.ref 17), some (.int x), some (.int 2), some (.int (x &&& (M.1 18 2)))]) (st := []) (M := M) (r1 := some (.int (s_bc (x &&& (M.1 19 2))))) (M1 := M) rfl (c_bitCount X d (x &&& (M.1 19 2)) M) ?_
                    show q_Wp X _ 19 (67, [some (.ref 17), some (.int x), some (.int 2), some (.int (x &&& (M.1 18 2)))], [.int (s_bc (x &&& (M.1 19 2)))], M) _
                    refine q_Wp.gd 1 ((s_bc (x &&& (M.1 19 2))) ≤ 1) (c1 := (73, [some (.ref 17), some (.int x), some (.int 2), some (.int (x &&& (M.1 18 2)))], [], M)) (c2 := (71, [some (.ref 17), some (.int x), some (.int 2), some (.int (x &&& (M.1 18 2)))], [], M)) rfl (fun h24 => ?_) (fun h24 => ?_)
                    · -- ftfttttftt
                      refine q_Wp.gn 5 (c' := (80, [some (.ref 17), some (.int x), some (.int 3), some (.int (x &&& (M.1 18 2)))], [.int 1], M)) rfl ?_
                      exact q_Wp.rt rfl rfl ⟨by simp [s_kc, s_kg, q_b, *], by rfl⟩
                    · -- ftfttttftf
                      refine q_Wp.gn 0 (c' := (72, [some (.ref 17), some (.int x), some (.int 2), some (.int (x &&& (M.1 18 2)))], [.int 0], M)) rfl ?_
                      exact q_Wp.rt rfl rfl ⟨by simp [s_kc, s_kg, q_b, *], by rfl⟩
                  · -- ftfttttff
                    refine q_Wp.gn 0 (c' := (55, [some (.ref 17), some (.int x), some (.int 2), some (.int (x &&& (M.1 18 2)))], [.int 0], M)) rfl ?_
                    exact q_Wp.rt rfl rfl ⟨by simp [s_kc, s_kg, q_b, *], by rfl⟩
              · -- ftftttf
                refine q_Wp.gn 0 (c' := (72, [some (.ref 17), some (.int x), some (.int 1), some (.int (x &&& (M.1 18 1)))], [.int 0], M)) rfl ?_
                exact q_Wp.rt rfl rfl ⟨by simp [s_kc, s_kg, q_b, *], by rfl⟩
            · -- ftfttf
              refine q_Wp.gd 5 ((x &&& (M.1 18 1)) = (M.1 18 1)) (c1 := (56, [some (.ref 17), some (.int x), some (.int 1), some (.int (x &&& (M.1 18 1)))], [], M)) (c2 := (54, [some (.ref 17), some (.int x), some (.int 1), some (.int (x &&& (M.1 18 1)))], [], M)) rfl (fun h25 => ?_) (fun h25 => ?_)
              · -- ftfttft
                refine q_Wp.gc 6 (mj := 110) (as := [.int (x &&& (M.1 19 1))]) (pc := 67) (ls := [some (.ref 17), some (.int x), some (.int 1), some (.int (x &&& (M.1 18 1)))]) (st := []) (M := M) (r1 := some (.int (s_bc (x &&& (M.1 19 1))))) (M1 := M) rfl (c_bitCount X d (x &&& (M.1 19 1)) M) ?_
                show q_Wp X _ 19 (67, [some (.ref 17), some (.int x), some (.int 1), some (.int (x &&& (M.1 18 1)))], [.int (s_bc (x &&& (M.1 19 1)))], M) _
                refine q_Wp.gd 1 ((s_bc (x &&& (M.1 19 1))) ≤ 1) (c1 := (73, [some (.ref 17), some (.int x), some (.int 1), some (.int (x &&& (M.1 18 1)))], [], M)) (c2 := (71, [some (.ref 17), some (.int x), some (.int 1), some (.int (x &&& (M.1 18 1)))], [], M)) rfl (fun h26 => ?_) (fun h26 => ?_)
                · -- ftfttftt
                  refine q_Wp.gd 13 ((x &&& (M.1 18 2)) = 0) (c1 := (56, [some (.ref 17), some (.int x), some (.int 2), some (.int (x &&& (M.1 18 2)))], [], M)) (c2 := (44, [some (.ref 17), some (.int x), some (.int 2), some (.int (x &&& (M.1 18 2)))], [], M)) rfl (fun h27 => ?_) (fun h27 => ?_)
                  · -- ftfttfttt
                    refine q_Wp.gc 6 (mj := 110) (as := [.int (x &&& (M.1 19 2))]) (pc := 67) (ls := [some (.ref 17), some (.int x), some (.int 2), some (.int (x &&& (M.1 18 2)))]) (st := []) (M := M) (r1 := some (.int (s_bc (x &&& (M.1 19 2))))) (M1 := M) rfl (c_bitCount X d (x &&& (M.1 19 2)) M) ?_
                    show q_Wp X _ 19 (67, [some (.ref 17), some (.int x), some (.int 2), some (.int (x &&& (M.1 18 2)))], [.int (s_bc (x &&& (M.1 19 2)))], M) _
                    refine q_Wp.gd 1 ((s_bc (x &&& (M.1 19 2))) ≤ 1) (c1 := (73, [some (.ref 17), some (.int x), some (.int 2), some (.int (x &&& (M.1 18 2)))], [], M)) (c2 := (71, [some (.ref 17), some (.int x), some (.int 2), some (.int (x &&& (M.1 18 2)))], [], M)) rfl (fun h28 => ?_) (fun h28 => ?_)
                    · -- ftfttftttt
                      refine q_Wp.gn 5 (c' := (80, [some (.ref 17), some (.int x), some (.int 3), some (.int (x &&& (M.1 18 2)))], [.int 1], M)) rfl ?_
                      exact q_Wp.rt rfl rfl ⟨by simp [s_kc, s_kg, q_b, *], by rfl⟩
                    · -- ftfttftttf
                      refine q_Wp.gn 0 (c' := (72, [some (.ref 17), some (.int x), some (.int 2), some (.int (x &&& (M.1 18 2)))], [.int 0], M)) rfl ?_
                      exact q_Wp.rt rfl rfl ⟨by simp [s_kc, s_kg, q_b, *], by rfl⟩
                  · -- ftfttfttf
                    refine q_Wp.gd 5 ((x &&& (M.1 18 2)) = (M.1 18 2)) (c1 := (56, [some (.ref 17), some (.int x), some (.int 2), some (.int (x &&& (M.1 18 2)))], [], M)) (c2 := (54, [some (.ref 17), some (.int x), some (.int 2), some (.int (x &&& (M.1 18 2)))], [], M)) rfl (fun h29 => ?_) (fun h29 => ?_)
                    · -- ftfttfttft
                      refine q_Wp.gc 6 (mj := 110) (as := [.int (x &&& (M.1 19 2))]) (pc := 67) (ls := [some (.ref 17), some (.int x), some (.int 2), some (.int (x &&& (M.1 18 2)))]) (st := []) (M := M) (r1 := some (.int (s_bc (x &&& (M.1 19 2))))) (M1 := M) rfl (c_bitCount X d (x &&& (M.1 19 2)) M) ?_
                      show q_Wp X _ 19 (67, [some (.ref 17), some (.int x), some (.int 2), some (.int (x &&& (M.1 18 2)))], [.int (s_bc (x &&& (M.1 19 2)))], M) _
                      refine q_Wp.gd 1 ((s_bc (x &&& (M.1 19 2))) ≤ 1) (c1 := (73, [some (.ref 17), some (.int x), some (.int 2), some (.int (x &&& (M.1 18 2)))], [], M)) (c2 := (71, [some (.ref 17), some (.int x), some (.int 2), some (.int (x &&& (M.1 18 2)))], [], M)) rfl (fun h30 => ?_) (fun h30 => ?_)
                      · -- ftfttfttftt
                        refine q_Wp.gn 5 (c' := (80, [some (.ref 17), some (.int x), some (.int 3), some (.int (x &&& (M.1 18 2)))], [.int 1], M)) rfl ?_
                        exact q_Wp.rt rfl rfl ⟨by simp [s_kc, s_kg, q_b, *], by rfl⟩
                      · -- ftfttfttftf
                        refine q_Wp.gn 0 (c' := (72, [some (.ref 17), some (.int x), some (.int 2), some (.int (x &&& (M.1 18 2)))], [.int 0], M)) rfl ?_
                        exact q_Wp.rt rfl rfl ⟨by simp [s_kc, s_kg, q_b, *], by rfl⟩
                    · -- ftfttfttff
                      refine q_Wp.gn 0 (c' := (55, [some (.ref 17), some (.int x), some (.int 2), some (.int (x &&& (M.1 18 2)))], [.int 0], M)) rfl ?_
                      exact q_Wp.rt rfl rfl ⟨by simp [s_kc, s_kg, q_b, *], by rfl⟩
                · -- ftfttftf
                  refine q_Wp.gn 0 (c' := (72, [some (.ref 17), some (.int x), some (.int 1), some (.int (x &&& (M.1 18 1)))], [.int 0], M)) rfl ?_
                  exact q_Wp.rt rfl rfl ⟨by simp [s_kc, s_kg, q_b, *], by rfl⟩
              · -- ftfttff
                refine q_Wp.gn 0 (c' := (55, [some (.ref 17), some (.int x), some (.int 1), some (.int (x &&& (M.1 18 1)))], [.int 0], M)) rfl ?_
                exact q_Wp.rt rfl rfl ⟨by simp [s_kc, s_kg, q_b, *], by rfl⟩
          · -- ftftf
            refine q_Wp.gn 0 (c' := (72, [some (.ref 17), some (.int x), some (.int 0), some (.int (x &&& (M.1 18 0)))], [.int 0], M)) rfl ?_
            exact q_Wp.rt rfl rfl ⟨by simp [s_kc, s_kg, q_b, *], by rfl⟩
        · -- ftff
          refine q_Wp.gn 0 (c' := (55, [some (.ref 17), some (.int x), some (.int 0), some (.int (x &&& (M.1 18 0)))], [.int 0], M)) rfl ?_
          exact q_Wp.rt rfl rfl ⟨by simp [s_kc, s_kg, q_b, *], by rfl⟩
    · -- ff
      refine q_Wp.gn 0 (c' := (23, [some (.ref 17), some (.int x), none, none], [.int 0], M)) rfl ?_
      exact q_Wp.rt rfl rfl ⟨by simp [s_kc, s_kg, q_b, *], by rfl⟩

set_option maxRecDepth 10000 in
theorem c_restOfBegunTexts (X : q_X) (d : Nat) (x : Int32) (M : q_M) : q_Ev X (d + 1) 20 [.ref 17, .int x] M (some (.int (s_rt x (M.1 18)))) (M) := by
  refine q_Ev.ofW rfl ?_
  show q_Wp X _ 20 (0, [some (.ref 17), some (.int x), none, none], [], M) _
  refine q_Wp.gn 11 (c' := (16, [some (.ref 17), some (.int x), some (.int 0), none], [.int (x ^^^ (-1)), .int (M.1 18 0)], M)) rfl ?_
  refine q_Wp.cv (c' := (16, [some (.ref 17), some (.int x), some (.int 0), none], [.int (s_not x), .int (M.1 18 0)], M)) (by first | rw [s_not_e x] | simp only [s_not_e x]) ?_
  refine q_Wp.gd 3 (((M.1 18 0) &&& (s_not x)) = 0) (c1 := (34, [some (.ref 17), some (.int x), some (.int 0), some (.int ((M.1 18 0) &&& (s_not x)))], [], M)) (c2 := (22, [some (.ref 17), some (.int x), some (.int 0), some (.int ((M.1 18 0) &&& (s_not x)))], [], M)) rfl (fun h1 => ?_) (fun h1 => ?_)
  · -- t
    refine q_Wp.gn 11 (c' := (16, [some (.ref 17), some (.int x), some (.int 1), some (.int ((M.1 18 0) &&& (s_not x)))], [.int (x ^^^ (-1)), .int (M.1 18 1)], M)) rfl ?_
    refine q_Wp.cv (c' := (16, [some (.ref 17), some (.int x), some (.int 1), some (.int ((M.1 18 0) &&& (s_not x)))], [.int (s_not x), .int (M.1 18 1)], M)) (by first | rw [s_not_e x] | simp only [s_not_e x]) ?_
    refine q_Wp.gd 3 (((M.1 18 1) &&& (s_not x)) = 0) (c1 := (34, [some (.ref 17), some (.int x), some (.int 1), some (.int ((M.1 18 1) &&& (s_not x)))], [], M)) (c2 := (22, [some (.ref 17), some (.int x), some (.int 1), some (.int ((M.1 18 1) &&& (s_not x)))], [], M)) rfl (fun h2 => ?_) (fun h2 => ?_)
    · -- tt
      refine q_Wp.gn 11 (c' := (16, [some (.ref 17), some (.int x), some (.int 2), some (.int ((M.1 18 1) &&& (s_not x)))], [.int (x ^^^ (-1)), .int (M.1 18 2)], M)) rfl ?_
      refine q_Wp.cv (c' := (16, [some (.ref 17), some (.int x), some (.int 2), some (.int ((M.1 18 1) &&& (s_not x)))], [.int (s_not x), .int (M.1 18 2)], M)) (by first | rw [s_not_e x] | simp only [s_not_e x]) ?_
      refine q_Wp.gd 3 (((M.1 18 2) &&& (s_not x)) = 0) (c1 := (34, [some (.ref 17), some (.int x), some (.int 2), some (.int ((M.1 18 2) &&& (s_not x)))], [], M)) (c2 := (22, [some (.ref 17), some (.int x), some (.int 2), some (.int ((M.1 18 2) &&& (s_not x)))], [], M)) rfl (fun h3 => ?_) (fun h3 => ?_)
      · -- ttt
        refine q_Wp.gn 5 (c' := (41, [some (.ref 17), some (.int x), some (.int 3), some (.int ((M.1 18 2) &&& (s_not x)))], [.int 0], M)) rfl ?_
        exact q_Wp.rt rfl rfl ⟨by simp [s_rt, s_r1, *], by rfl⟩
      · -- ttf
        refine q_Wp.gd 5 (((M.1 18 2) &&& (s_not x)) = (M.1 18 2)) (c1 := (34, [some (.ref 17), some (.int x), some (.int 2), some (.int ((M.1 18 2) &&& (s_not x)))], [], M)) (c2 := (32, [some (.ref 17), some (.int x), some (.int 2), some (.int ((M.1 18 2) &&& (s_not x)))], [], M)) rfl (fun h4 => ?_) (fun h4 => ?_)
        · -- ttft
          refine q_Wp.gn 5 (c' := (41, [some (.ref 17), some (.int x), some (.int 3), some (.int ((M.1 18 2) &&& (s_not x)))], [.int 0], M)) rfl ?_
          exact q_Wp.rt rfl rfl ⟨by simp [s_rt, s_r1, *], by rfl⟩
        · -- ttff
          refine q_Wp.gn 0 (c' := (33, [some (.ref 17), some (.int x), some (.int 2), some (.int ((M.1 18 2) &&& (s_not x)))], [.int ((M.1 18 2) &&& (s_not x))], M)) rfl ?_
          exact q_Wp.rt rfl rfl ⟨by simp [s_rt, s_r1, *], by rfl⟩
    · -- tf
      refine q_Wp.gd 5 (((M.1 18 1) &&& (s_not x)) = (M.1 18 1)) (c1 := (34, [some (.ref 17), some (.int x), some (.int 1), some (.int ((M.1 18 1) &&& (s_not x)))], [], M)) (c2 := (32, [some (.ref 17), some (.int x), some (.int 1), some (.int ((M.1 18 1) &&& (s_not x)))], [], M)) rfl (fun h5 => ?_) (fun h5 => ?_)
      · -- tft
        refine q_Wp.gn 11 (c' := (16, [some (.ref 17), some (.int x), some (.int 2), some (.int ((M.1 18 1) &&& (s_not x)))], [.int (x ^^^ (-1)), .int (M.1 18 2)], M)) rfl ?_
        refine q_Wp.cv (c' := (16, [some (.ref 17), some (.int x), some (.int 2), some (.int ((M.1 18 1) &&& (s_not x)))], [.int (s_not x), .int (M.1 18 2)], M)) (by first | rw [s_not_e x] | simp only [s_not_e x]) ?_
        refine q_Wp.gd 3 (((M.1 18 2) &&& (s_not x)) = 0) (c1 := (34, [some (.ref 17), some (.int x), some (.int 2), some (.int ((M.1 18 2) &&& (s_not x)))], [], M)) (c2 := (22, [some (.ref 17), some (.int x), some (.int 2), some (.int ((M.1 18 2) &&& (s_not x)))], [], M)) rfl (fun h6 => ?_) (fun h6 => ?_)
        · -- tftt
          refine q_Wp.gn 5 (c' := (41, [some (.ref 17), some (.int x), some (.int 3), some (.int ((M.1 18 2) &&& (s_not x)))], [.int 0], M)) rfl ?_
          exact q_Wp.rt rfl rfl ⟨by simp [s_rt, s_r1, *], by rfl⟩
        · -- tftf
          refine q_Wp.gd 5 (((M.1 18 2) &&& (s_not x)) = (M.1 18 2)) (c1 := (34, [some (.ref 17), some (.int x), some (.int 2), some (.int ((M.1 18 2) &&& (s_not x)))], [], M)) (c2 := (32, [some (.ref 17), some (.int x), some (.int 2), some (.int ((M.1 18 2) &&& (s_not x)))], [], M)) rfl (fun h7 => ?_) (fun h7 => ?_)
          · -- tftft
            refine q_Wp.gn 5 (c' := (41, [some (.ref 17), some (.int x), some (.int 3), some (.int ((M.1 18 2) &&& (s_not x)))], [.int 0], M)) rfl ?_
            exact q_Wp.rt rfl rfl ⟨by simp [s_rt, s_r1, *], by rfl⟩
          · -- tftff
            refine q_Wp.gn 0 (c' := (33, [some (.ref 17), some (.int x), some (.int 2), some (.int ((M.1 18 2) &&& (s_not x)))], [.int ((M.1 18 2) &&& (s_not x))], M)) rfl ?_
            exact q_Wp.rt rfl rfl ⟨by simp [s_rt, s_r1, *], by rfl⟩
      · -- tff
        refine q_Wp.gn 0 (c' := (33, [some (.ref 17), some (.int x), some (.int 1), some (.int ((M.1 18 1) &&& (s_not x)))], [.int ((M.1 18 1) &&& (s_not x))], M)) rfl ?_
        exact q_Wp.rt rfl rfl ⟨by simp [s_rt, s_r1, *], by rfl⟩
  · -- f
    refine q_Wp.gd 5 (((M.1 18 0) &&& (s_not x)) = (M.1 18 0)) (c1 := (34, [some (.ref 17), some (.int x), some (.int 0), some (.int ((M.1 18 0) &&& (s_not x)))], [], M)) (c2 := (32, [some (.ref 17), some (.int x), some (.int 0), some (.int ((M.1 18 0) &&& (s_not x)))], [], M)) rfl (fun h8 => ?_) (fun h8 => ?_)
    · -- ft
      refine q_Wp.gn 11 (c' := (16, [some (.ref 17), some (.int x), some (.int 1), some (.int ((M.1 18 0) &&& (s_not x)))], [.int (x ^^^ (-1)), .int (M.1 18 1)], M)) rfl ?_
      refine q_Wp.cv (c' := (16, [some (.ref 17), some (.int x), some (.int 1), some (.int ((M.1 18 0) &&& (s_not x)))], [.int (s_not x), .int (M.1 18 1)], M)) (by first | rw [s_not_e x] | simp only [s_not_e x]) ?_
      refine q_Wp.gd 3 (((M.1 18 1) &&& (s_not x)) = 0) (c1 := (34, [some (.ref 17), some (.int x), some (.int 1), some (.int ((M.1 18 1) &&& (s_not x)))], [], M)) (c2 := (22, [some (.ref 17), some (.int x), some (.int 1), some (.int ((M.1 18 1) &&& (s_not x)))], [], M)) rfl (fun h9 => ?_) (fun h9 => ?_)
      · -- ftt
        refine q_Wp.gn 11 (c' := (16, [some (.ref 17), some (.int x), some (.int 2), some (.int ((M.1 18 1) &&& (s_not x)))], [.int (x ^^^ (-1)), .int (M.1 18 2)], M)) rfl ?_
        refine q_Wp.cv (c' := (16, [some (.ref 17), some (.int x), some (.int 2), some (.int ((M.1 18 1) &&& (s_not x)))], [.int (s_not x), .int (M.1 18 2)], M)) (by first | rw [s_not_e x] | simp only [s_not_e x]) ?_
        refine q_Wp.gd 3 (((M.1 18 2) &&& (s_not x)) = 0) (c1 := (34, [some (.ref 17), some (.int x), some (.int 2), some (.int ((M.1 18 2) &&& (s_not x)))], [], M)) (c2 := (22, [some (.ref 17), some (.int x), some (.int 2), some (.int ((M.1 18 2) &&& (s_not x)))], [], M)) rfl (fun h10 => ?_) (fun h10 => ?_)
        · -- fttt
          refine q_Wp.gn 5 (c' := (41, [some (.ref 17), some (.int x), some (.int 3), some (.int ((M.1 18 2) &&& (s_not x)))], [.int 0], M)) rfl ?_
          exact q_Wp.rt rfl rfl ⟨by simp [s_rt, s_r1, *], by rfl⟩
        · -- fttf
          refine q_Wp.gd 5 (((M.1 18 2) &&& (s_not x)) = (M.1 18 2)) (c1 := (34, [some (.ref 17), some (.int x), some (.int 2), some (.int ((M.1 18 2) &&& (s_not x)))], [], M)) (c2 := (32, [some (.ref 17), some (.int x), some (.int 2), some (.int ((M.1 18 2) &&& (s_not x)))], [], M)) rfl (fun h11 => ?_) (fun h11 => ?_)
          · -- fttft
            refine q_Wp.gn 5 (c' := (41, [some (.ref 17), some (.int x), some (.int 3), some (.int ((M.1 18 2) &&& (s_not x)))], [.int 0], M)) rfl ?_
            exact q_Wp.rt rfl rfl ⟨by simp [s_rt, s_r1, *], by rfl⟩
          · -- fttff
            refine q_Wp.gn 0 (c' := (33, [some (.ref 17), some (.int x), some (.int 2), some (.int ((M.1 18 2) &&& (s_not x)))], [.int ((M.1 18 2) &&& (s_not x))], M)) rfl ?_
            exact q_Wp.rt rfl rfl ⟨by simp [s_rt, s_r1, *], by rfl⟩
      · -- ftf
        refine q_Wp.gd 5 (((M.1 18 1) &&& (s_not x)) = (M.1 18 1)) (c1 := (34, [some (.ref 17), some (.int x), some (.int 1), some (.int ((M.1 18 1) &&& (s_not x)))], [], M)) (c2 := (32, [some (.ref 17), some (.int x), some (.int 1), some (.int ((M.1 18 1) &&& (s_not x)))], [], M)) rfl (fun h12 => ?_) (fun h12 => ?_)
        · -- ftft
          refine q_Wp.gn 11 (c' := (16, [some (.ref 17), some (.int x), some (.int 2), some (.int ((M.1 18 1) &&& (s_not x)))], [.int (x ^^^ (-1)), .int (M.1 18 2)], M)) rfl ?_
          refine q_Wp.cv (c' := (16, [some (.ref 17), some (.int x), some (.int 2), some (.int ((M.1 18 1) &&& (s_not x)))], [.int (s_not x), .int (M.1 18 2)], M)) (by first | rw [s_not_e x] | simp only [s_not_e x]) ?_
          refine q_Wp.gd 3 (((M.1 18 2) &&& (s_not x)) = 0) (c1 := (34, [some (.ref 17), some (.int x), some (.int 2), some (.int ((M.1 18 2) &&& (s_not x)))], [], M)) (c2 := (22, [some (.ref 17), some (.int x), some (.int 2), some (.int ((M.1 18 2) &&& (s_not x)))], [], M)) rfl (fun h13 => ?_) (fun h13 => ?_)
          · -- ftftt
            refine q_Wp.gn 5 (c' := (41, [some (.ref 17), some (.int x), some (.int 3), some (.int ((M.1 18 2) &&& (s_not x)))], [.int 0], M)) rfl ?_
            exact q_Wp.rt rfl rfl ⟨by simp [s_rt, s_r1, *], by rfl⟩
          · -- ftftf
            refine q_Wp.gd 5 (((M.1 18 2) &&& (s_not x)) = (M.1 18 2)) (c1 := (34, [some (.ref 17), some (.int x), some (.int 2), some (.int ((M.1 18 2) &&& (s_not x)))], [], M)) (c2 := (32, [some (.ref 17), some (.int x), some (.int 2), some (.int ((M.1 18 2) &&& (s_not x)))], [], M)) rfl (fun h14 => ?_) (fun h14 => ?_)
            · -- ftftft
              refine q_Wp.gn 5 (c' := (41, [some (.ref 17), some (.int x), some (.int 3), some (.int ((M.1 18 2) &&& (s_not x)))], [.int 0], M)) rfl ?_
              exact q_Wp.rt rfl rfl ⟨by simp [s_rt, s_r1, *], by rfl⟩
            · -- ftftff
              refine q_Wp.gn 0 (c' := (33, [some (.ref 17), some (.int x), some (.int 2), some (.int ((M.1 18 2) &&& (s_not x)))], [.int ((M.1 18 2) &&& (s_not x))], M)) rfl ?_
              exact q_Wp.rt rfl rfl ⟨by simp [s_rt, s_r1, *], by rfl⟩
        · -- ftff
          refine q_Wp.gn 0 (c' := (33, [some (.ref 17), some (.int x), some (.int 1), some (.int ((M.1 18 1) &&& (s_not x)))], [.int ((M.1 18 1) &&& (s_not x))], M)) rfl ?_
          exact q_Wp.rt rfl rfl ⟨by simp [s_rt, s_r1, *], by rfl⟩
    · -- ff
      refine q_Wp.gn 0 (c' := (33, [some (.ref 17), some (.int x), some (.int 0), some (.int ((M.1 18 0) &&& (s_not x)))], [.int ((M.1 18 0) &&& (s_not x))], M)) rfl ?_
      exact q_Wp.rt rfl rfl ⟨by simp [s_rt, s_r1, *], by rfl⟩

set_option maxRecDepth 10000 in
theorem c_isFit (X : q_X) (d : Nat) {n S : Nat} {b : Bool} (hn : n ≤ 10) (hS : S < 2 ^ n) (M : q_M) (hsz : M.1 17 0 = nI n) (hb : M.1 21 S = q_b b) : q_Ev X (d + 2) 10 [.ref 17, .int (nI S)] M (some (.int (q_b b))) (M) := by
  refine q_Ev.ofW rfl ?_
  show q_Wp X _ 10 (0, [some (.ref 17), some (.int (nI S))], [], M) _
  have hp := s_pw hn
  have hw : s_in (nI S) 0 (nI (2 ^ n) - 1) = true := by rw [show nI (2 ^ n) - 1 = nI (2 ^ n - 1) from pk_sub (a := 2 ^ n) (b := 1) (by omega)]; exact s_in_ok (b := 0) (by omega) (by omega) (by omega)
  refine q_Wp.gc 3 (mj := 12) (as := [.ref 17]) (pc := 6) (ls := [some (.ref 17), some (.int (nI S))]) (st := [.int 0, .int (nI S)]) (M := M) (r1 := some (.int (nI (2 ^ n)))) (M1 := M) rfl (c_total X d (n := n) hn M hsz) ?_
  show q_Wp X _ 10 (6, [some (.ref 17), some (.int (nI S))], [.int (nI (2 ^ n)), .int 0, .int (nI S)], M) _
  refine q_Wp.gc 2 (mj := 55) (as := [.int (nI S), .int 0, .int ((nI (2 ^ n)) - 1)]) (pc := 11) (ls := [some (.ref 17), some (.int (nI S))]) (st := []) (M := M) (r1 := some (.int (q_b (s_in (nI S) 0 ((nI (2 ^ n)) - 1))))) (M1 := M) rfl (c_isWithin X d (nI S) 0 ((nI (2 ^ n)) - 1) M) ?_
  show q_Wp X _ 10 (11, [some (.ref 17), some (.int (nI S))], [.int (q_b (s_in (nI S) 0 ((nI (2 ^ n)) - 1)))], M) _
  refine q_Wp.cv (c' := (11, [some (.ref 17), some (.int (nI S))], [.int 1], M)) (by first | rw [hw, q_bt] | simp only [hw, q_bt]) ?_
  refine q_Wp.gn 3 (c' := (19, [some (.ref 17), some (.int (nI S))], [.int (nI S), .ref 21], M)) rfl ?_
  refine q_Wp.zld (i := S) rfl (rfl) rfl (by omega) (by decide) ?_
  show q_Wp X _ 10 (20, [some (.ref 17), some (.int (nI S))], [.int (M.1 21 S)], M) _
  refine q_Wp.cv (c' := (20, [some (.ref 17), some (.int (nI S))], [.int (q_b b)], M)) (by first | rw [hb] | simp only [hb]) ?_
  refine q_Wp.ge0 0 (b := b) (c1 := (27, [some (.ref 17), some (.int (nI S))], [], M)) (c2 := (23, [some (.ref 17), some (.int (nI S))], [], M)) rfl (fun h1 => ?_) (fun h1 => ?_)
  · -- t
    refine q_Wp.gn 0 (c' := (28, [some (.ref 17), some (.int (nI S))], [.int 0], M)) rfl ?_
    exact q_Wp.rt rfl rfl ⟨by simp [q_b, *], by rfl⟩
  · -- f
    refine q_Wp.gn 1 (c' := (28, [some (.ref 17), some (.int (nI S))], [.int 1], M)) rfl ?_
    exact q_Wp.rt rfl rfl ⟨by simp [q_b, *], by rfl⟩

set_option maxRecDepth 10000 in
theorem c_isPartOfFit (X : q_X) (d : Nat) {n S : Nat} {b : Bool} (hn : n ≤ 10) (hS : S < 2 ^ n) (M : q_M) (hsz : M.1 17 0 = nI n) (hb : M.1 22 S = q_b b) : q_Ev X (d + 2) 13 [.ref 17, .int (nI S)] M (some (.int (q_b b))) (M) := by
  refine q_Ev.ofW rfl ?_
  show q_Wp X _ 13 (0, [some (.ref 17), some (.int (nI S))], [], M) _
  have hp := s_pw hn
  have hw : s_in (nI S) 0 (nI (2 ^ n) - 1) = true := by rw [show nI (2 ^ n) - 1 = nI (2 ^ n - 1) from pk_sub (a := 2 ^ n) (b := 1) (by omega)]; exact s_in_ok (b := 0) (by omega) (by omega) (by omega)
  refine q_Wp.gc 3 (mj := 12) (as := [.ref 17]) (pc := 6) (ls := [some (.ref 17), some (.int (nI S))]) (st := [.int 0, .int (nI S)]) (M := M) (r1 := some (.int (nI (2 ^ n)))) (M1 := M) rfl (c_total X d (n := n) hn M hsz) ?_
  show q_Wp X _ 13 (6, [some (.ref 17), some (.int (nI S))], [.int (nI (2 ^ n)), .int 0, .int (nI S)], M) _
  refine q_Wp.gc 2 (mj := 55) (as := [.int (nI S), .int 0, .int ((nI (2 ^ n)) - 1)]) (pc := 11) (ls := [some (.ref 17), some (.int (nI S))]) (st := []) (M := M) (r1 := some (.int (q_b (s_in (nI S) 0 ((nI (2 ^ n)) - 1))))) (M1 := M) rfl (c_isWithin X d (nI S) 0 ((nI (2 ^ n)) - 1) M) ?_
  show q_Wp X _ 13 (11, [some (.ref 17), some (.int (nI S))], [.int (q_b (s_in (nI S) 0 ((nI (2 ^ n)) - 1)))], M) _
  refine q_Wp.cv (c' := (11, [some (.ref 17), some (.int (nI S))], [.int 1], M)) (by first | rw [hw, q_bt] | simp only [hw, q_bt]) ?_
  refine q_Wp.gn 3 (c' := (19, [some (.ref 17), some (.int (nI S))], [.int (nI S), .ref 22], M)) rfl ?_
  refine q_Wp.zld (i := S) rfl (rfl) rfl (by omega) (by decide) ?_
  show q_Wp X _ 13 (20, [some (.ref 17), some (.int (nI S))], [.int (M.1 22 S)], M) _
  refine q_Wp.cv (c' := (20, [some (.ref 17), some (.int (nI S))], [.int (q_b b)], M)) (by first | rw [hb] | simp only [hb]) ?_
  refine q_Wp.ge0 0 (b := b) (c1 := (27, [some (.ref 17), some (.int (nI S))], [], M)) (c2 := (23, [some (.ref 17), some (.int (nI S))], [], M)) rfl (fun h1 => ?_) (fun h1 => ?_)
  · -- t
    refine q_Wp.gn 0 (c' := (28, [some (.ref 17), some (.int (nI S))], [.int 0], M)) rfl ?_
    exact q_Wp.rt rfl rfl ⟨by simp [q_b, *], by rfl⟩
  · -- f
    refine q_Wp.gn 1 (c' := (28, [some (.ref 17), some (.int (nI S))], [.int 1], M)) rfl ?_
    exact q_Wp.rt rfl rfl ⟨by simp [q_b, *], by rfl⟩

