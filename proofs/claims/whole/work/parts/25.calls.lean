/-! Contracts: simple calls of both sides (by program: wip/whole/c25.py) -/
def s_r3 (ok on : Bool) (v : Int32) : Int32 := if ok = true then (if on = true then -2 else v) else -1
def s_m3 (ok on : Bool) (M1 M : q_M) : q_M := if ok = true ∧ on = false then M1 else M
theorem s_in_inv {x : Int32} {a b : Nat} (ha : a < 2 ^ 31) (hb : b < 2 ^ 31) (h : s_in x (nI a) (nI b) = true) : ∃ k, a ≤ k ∧ k ≤ b ∧ x = nI k := by
  simp only [s_in, Bool.and_eq_true, Bool.not_eq_true', decide_eq_false_iff_not] at h
  obtain ⟨h1, h2⟩ := h
  have h0 : ¬ x < 0 := by
    intro z
    apply h1
    rw [Int32.lt_iff_toInt_lt] at z ⊢
    rw [nI_toInt ha]
    have : (0 : Int32).toInt = 0 := rfl
    omega
  obtain ⟨k, hk, rfl⟩ := nI_of h0
  exact ⟨k, Nat.le_of_not_lt (fun z => h1 ((nI_ltI hk ha).mpr z)), Nat.le_of_not_lt (fun z => h2 ((nI_ltI hb hk).mpr z)), rfl⟩
theorem s_has_inv {n : Nat} {q : Int32} (hn : n ≤ 10) (h : s_has (nI n) q = true) : ∃ k, k < n ∧ q = nI k := by
  simp only [s_has, Bool.and_eq_true, Bool.not_eq_true', decide_eq_false_iff_not] at h
  obtain ⟨⟨h1, h2⟩, -⟩ := h
  obtain ⟨k, hk, rfl⟩ := nI_of h1
  exact ⟨k, Nat.lt_of_not_le (fun z => h2 ((nI_leI (by omega) hk).mpr z)), rfl⟩
theorem s_has_in {n : Nat} (hn : n ≤ 10) (q : Int32) : s_in q 0 (nI n - 1) = s_has (nI n) q := by
  cases hz : s_has (nI n) q with
  | true =>
    obtain ⟨k, hk, rfl⟩ := s_has_inv hn hz
    rw [show nI n - 1 = nI (n - 1) from pk_sub (a := n) (b := 1) (by omega)]
    exact s_in_ok (b := 0) (by omega) (by omega) (by omega)
  | false =>
    rcases Nat.eq_zero_or_pos n with h0 | h0
    · subst h0
      cases hy : s_in q 0 (nI 0 - 1) with
      | false => rfl
      | true =>
        simp only [s_in, Bool.and_eq_true, Bool.not_eq_true', decide_eq_false_iff_not] at hy
        exfalso
        have h1 := hy.1
        have h2 := hy.2
        rw [Int32.lt_iff_toInt_lt] at h1 h2
        have e1 : (nI 0 - 1).toInt = -1 := by decide
        have e2 : (0 : Int32).toInt = 0 := rfl
        omega
    · rw [show nI n - 1 = nI (n - 1) from pk_sub (a := n) (b := 1) (by omega)]
      cases hy : s_in q 0 (nI (n - 1)) with
      | false => rfl
      | true =>
        obtain ⟨k, -, hk, rfl⟩ := s_in_inv (a := 0) (by decide) (by omega) hy
        rw [s_has_ok rfl (show k < n by omega) hn] at hz
        cases hz
theorem s_fld_canBe (a x : Int32) : s_fld a x = s_canBe a x := by
  unfold s_fld s_canBe
  by_cases h0 : a = 0
  · rw [if_pos h0, if_pos h0]
  · rw [if_neg h0, if_neg h0]
    by_cases h3 : a = 3
    · subst h3; rfl
    · rw [if_neg h3]
      by_cases h1 : a = 1
      · subst h1; rfl
      · rw [if_neg h1]
        by_cases h2 : a = 2
        · subst h2; rfl
        · rw [if_neg h2, if_neg h3]
          cases hy : s_in a 1 2 with
          | false => rfl
          | true =>
            obtain ⟨k, hk1, hk2, rfl⟩ := s_in_inv (a := 1) (b := 2) (by decide) (by decide) hy
            exfalso
            rcases (show k = 1 ∨ k = 2 by omega) with h | h
            · subst h; exact h1 rfl
            · subst h; exact h2 rfl
set_option maxRecDepth 10000 in
theorem c_length (X : q_X) (d : Nat) {on : Bool} (x : Int32) (M : q_M) (hon : M.1 23 0 = q_b on) : q_Ev X (d + 2) 30 [.ref 0, .int x] M (some (.int (s_r3 (s_in x 1 6) on (M.1 13 0)))) (s_m3 (s_in x 1 6) on (q_up M 13 0 x) M) := by
  refine q_Ev.ofW rfl ?_
  show q_Wp X _ 30 (0, [some (.ref 0), some (.int x), none], [], M) _
  refine q_Wp.gc 3 (mj := 55) (as := [.int x, .int 1, .int 6]) (pc := 7) (ls := [some (.ref 0), some (.int x), none]) (st := []) (M := M) (r1 := some (.int (q_b (s_in x 1 6)))) (M1 := M) rfl (c_isWithin X d x 1 6 M) ?_
  show q_Wp X _ 30 (7, [some (.ref 0), some (.int x), none], [.int (q_b (s_in x 1 6))], M) _
  refine q_Wp.gn0 0 (b := (s_in x 1 6)) (c1 := (12, [some (.ref 0), some (.int x), none], [], M)) (c2 := (10, [some (.ref 0), some (.int x), none], [], M)) rfl (fun h1 => ?_) (fun h1 => ?_)
  · -- t
    refine q_Wp.gn 2 (c' := (19, [some (.ref 0), some (.int x), none], [.int (M.1 23 0)], M)) rfl ?_
    refine q_Wp.cv (c' := (19, [some (.ref 0), some (.int x), none], [.int (q_b on)], M)) (by first | rw [hon] | simp only [hon]) ?_
    refine q_Wp.ge0 0 (b := on) (c1 := (25, [some (.ref 0), some (.int x), none], [], M)) (c2 := (22, [some (.ref 0), some (.int x), none], [], M)) rfl (fun h2 => ?_) (fun h2 => ?_)
    · -- tt
      refine q_Wp.gn 8 (c' := (42, [some (.ref 0), some (.int x), some (.int (M.1 13 0))], [.int (M.1 13 0)], q_up M 13 0 x)) rfl ?_
      exact q_Wp.rt rfl rfl ⟨by simp [s_r3, *], by simp [s_m3, *]⟩
    · -- tf
      refine q_Wp.gn 0 (c' := (24, [some (.ref 0), some (.int x), none], [.int (-2)], M)) rfl ?_
      exact q_Wp.rt rfl rfl ⟨by simp [s_r3, *], by simp [s_m3, *]⟩
  · -- f
    refine q_Wp.gn 0 (c' := (11, [some (.ref 0), some (.int x), none], [.int (-1)], M)) rfl ?_
    exact q_Wp.rt rfl rfl ⟨by simp [s_r3, *], by simp [s_m3, *]⟩

set_option maxRecDepth 10000 in
theorem m_length (X : q_X) (d : Nat) {on : Bool} (x : Int32) (M : q_M) (hon : M.1 34 13 = q_b on) : q_Ev X (d + 2) 72 [.ref 34, .int x] M (some (.int (s_r3 (s_in x 1 6) on (M.1 34 7)))) (s_m3 (s_in x 1 6) on (q_up M 34 7 x) M) := by
  refine q_Ev.ofW rfl ?_
  show q_Wp X _ 72 (0, [some (.ref 34), some (.int x), none], [], M) _
  refine q_Wp.gc 3 (mj := 67) (as := [.int x, .int 1, .int 6]) (pc := 7) (ls := [some (.ref 34), some (.int x), none]) (st := []) (M := M) (r1 := some (.int (q_b (s_in x 1 6)))) (M1 := M) rfl (c_in X d x 1 6 M) ?_
  show q_Wp X _ 72 (7, [some (.ref 34), some (.int x), none], [.int (q_b (s_in x 1 6))], M) _
  refine q_Wp.gn0 0 (b := (s_in x 1 6)) (c1 := (12, [some (.ref 34), some (.int x), none], [], M)) (c2 := (10, [some (.ref 34), some (.int x), none], [], M)) rfl (fun h1 => ?_) (fun h1 => ?_)
  · -- t
    refine q_Wp.gn 1 (c' := (16, [some (.ref 34), some (.int x), none], [.int (M.1 34 13)], M)) rfl ?_
    refine q_Wp.cv (c' := (16, [some (.ref 34), some (.int x), none], [.int (q_b on)], M)) (by first | rw [hon] | simp only [hon]) ?_
    refine q_Wp.ge0 0 (b := on) (c1 := (22, [some (.ref 34), some (.int x), none], [], M)) (c2 := (19, [some (.ref 34), some (.int x), none], [], M)) rfl (fun h2 => ?_) (fun h2 => ?_)
    · -- tt
      refine q_Wp.gn 6 (c' := (33, [some (.ref 34), some (.int x), some (.int (M.1 34 7))], [.int (M.1 34 7)], q_up M 34 7 x)) rfl ?_
      exact q_Wp.rt rfl rfl ⟨by simp [s_r3, *], by simp [s_m3, *]⟩
    · -- tf
      refine q_Wp.gn 0 (c' := (21, [some (.ref 34), some (.int x), none], [.int (-2)], M)) rfl ?_
      exact q_Wp.rt rfl rfl ⟨by simp [s_r3, *], by simp [s_m3, *]⟩
  · -- f
    refine q_Wp.gn 0 (c' := (11, [some (.ref 34), some (.int x), none], [.int (-1)], M)) rfl ?_
    exact q_Wp.rt rfl rfl ⟨by simp [s_r3, *], by simp [s_m3, *]⟩

set_option maxRecDepth 10000 in
theorem c_share (X : q_X) (d : Nat) {on : Bool} (c lw hh : Int32) (M : q_M) (hon : M.1 23 0 = q_b on) : q_Ev X (d + 2) 31 [.ref 0, .int c, .int lw, .int hh] M (some (.int (s_r3 (s_in c 0 2 && (s_in lw 0 6 && s_in hh lw 6)) on (M.1 14 c.toNatClampNeg)))) (s_m3 (s_in c 0 2 && (s_in lw 0 6 && s_in hh lw 6)) on (q_up (q_up M 14 c.toNatClampNeg lw) 15 c.toNatClampNeg hh) M) := by
  refine q_Ev.ofW rfl ?_
  show q_Wp X _ 31 (0, [some (.ref 0), some (.int c), some (.int lw), some (.int hh), none], [], M) _
  refine q_Wp.gc 3 (mj := 55) (as := [.int c, .int 0, .int 2]) (pc := 6) (ls := [some (.ref 0), some (.int c), some (.int lw), some (.int hh), none]) (st := []) (M := M) (r1 := some (.int (q_b (s_in c 0 2)))) (M1 := M) rfl (c_isWithin X d c 0 2 M) ?_
  show q_Wp X _ 31 (6, [some (.ref 0), some (.int c), some (.int lw), some (.int hh), none], [.int (q_b (s_in c 0 2))], M) _
  refine q_Wp.gn0 0 (b := (s_in c 0 2)) (c1 := (11, [some (.ref 0), some (.int c), some (.int lw), some (.int hh), none], [], M)) (c2 := (9, [some (.ref 0), some (.int c), some (.int lw), some (.int hh), none], [], M)) rfl (fun h1 => ?_) (fun h1 => ?_)
  · -- t
    obtain ⟨k, -, hk, rfl⟩ := s_in_inv (a := 0) (b := 2) (by decide) (by decide) h1
    have hck : (nI k).toNatClampNeg = k := nI_clamp (by omega)
    refine q_Wp.gc 3 (mj := 55) (as := [.int lw, .int 0, .int 6]) (pc := 18) (ls := [some (.ref 0), some (.int (nI k)), some (.int lw), some (.int hh), none]) (st := []) (M := M) (r1 := some (.int (q_b (s_in lw 0 6)))) (M1 := M) rfl (c_isWithin X d lw 0 6 M) ?_
    show q_Wp X _ 31 (18, [some (.ref 0), some (.int (nI k)), some (.int lw), some (.int hh), none], [.int (q_b (s_in lw 0 6))], M) _
    refine q_Wp.ge0 0 (b := (s_in lw 0 6)) (c1 := (31, [some (.ref 0), some (.int (nI k)), some (.int lw), some (.int hh), none], [], M)) (c2 := (21, [some (.ref 0), some (.int (nI k)), some (.int lw), some (.int hh), none], [], M)) rfl (fun h2 => ?_) (fun h2 => ?_)
    · -- tt
      refine q_Wp.gn 0 (c' := (32, [some (.ref 0), some (.int (nI k)), some (.int lw), some (.int hh), none], [.int (-1)], M)) rfl ?_
      exact q_Wp.rt rfl rfl ⟨by simp [s_r3, *], by simp [s_m3, *]⟩
    · -- tf
      refine q_Wp.gc 3 (mj := 55) (as := [.int hh, .int lw, .int 6]) (pc := 28) (ls := [some (.ref 0), some (.int (nI k)), some (.int lw), some (.int hh), none]) (st := []) (M := M) (r1 := some (.int (q_b (s_in hh lw 6)))) (M1 := M) rfl (c_isWithin X d hh lw 6 M) ?_
      show q_Wp X _ 31 (28, [some (.ref 0), some (.int (nI k)), some (.int lw), some (.int hh), none], [.int (q_b (s_in hh lw 6))], M) _
      refine q_Wp.gn0 0 (b := (s_in hh lw 6)) (c1 := (33, [some (.ref 0), some (.int (nI k)), some (.int lw), some (.int hh), none], [], M)) (c2 := (31, [some (.ref 0), some (.int (nI k)), some (.int lw), some (.int hh), none], [], M)) rfl (fun h3 => ?_) (fun h3 => ?_)
      · -- tft
        refine q_Wp.gn 2 (c' := (40, [some (.ref 0), some (.int (nI k)), some (.int lw), some (.int hh), none], [.int (M.1 23 0)], M)) rfl ?_
        refine q_Wp.cv (c' := (40, [some (.ref 0), some (.int (nI k)), some (.int lw), some (.int hh), none], [.int (q_b on)], M)) (by first | rw [hon] | simp only [hon]) ?_
        refine q_Wp.ge0 0 (b := on) (c1 := (46, [some (.ref 0), some (.int (nI k)), some (.int lw), some (.int hh), none], [], M)) (c2 := (43, [some (.ref 0), some (.int (nI k)), some (.int lw), some (.int hh), none], [], M)) rfl (fun h4 => ?_) (fun h4 => ?_)
        · -- tftt
          refine q_Wp.gn 3 (c' := (54, [some (.ref 0), some (.int (nI k)), some (.int lw), some (.int hh), none], [.int (nI k), .ref 14], M)) rfl ?_
          refine q_Wp.ild (i := k) rfl (rfl) rfl (by omega) (by decide) ?_
          show q_Wp X _ 31 (55, [some (.ref 0), some (.int (nI k)), some (.int lw), some (.int hh), none], [.int (M.1 14 k)], M) _
          refine q_Wp.gn 5 (c' := (66, [some (.ref 0), some (.int (nI k)), some (.int lw), some (.int hh), some (.int (M.1 14 k))], [.int lw, .int (nI k), .ref 14], M)) rfl ?_
          refine q_Wp.ist (i := k) rfl (rfl) rfl (by omega) (by decide) ?_
          show q_Wp X _ 31 (67, [some (.ref 0), some (.int (nI k)), some (.int lw), some (.int hh), some (.int (M.1 14 k))], [], q_up M 14 k lw) _
          refine q_Wp.gn 4 (c' := (76, [some (.ref 0), some (.int (nI k)), some (.int lw), some (.int hh), some (.int (M.1 14 k))], [.int hh, .int (nI k), .ref 15], q_up M 14 k lw)) rfl ?_
          refine q_Wp.ist (i := k) rfl (rfl) rfl (by omega) (by decide) ?_
          show q_Wp X _ 31 (77, [some (.ref 0), some (.int (nI k)), some (.int lw), some (.int hh), some (.int (M.1 14 k))], [], q_up (q_up M 14 k lw) 15 k hh) _
          refine q_Wp.gn 0 (c' := (79, [some (.ref 0), some (.int (nI k)), some (.int lw), some (.int hh), some (.int (M.1 14 k))], [.int (M.1 14 k)], q_up (q_up M 14 k lw) 15 k hh)) rfl ?_
          exact q_Wp.rt rfl rfl ⟨by simp [s_r3, *], by simp [s_m3, *]⟩
        · -- tftf
          refine q_Wp.gn 0 (c' := (45, [some (.ref 0), some (.int (nI k)), some (.int lw), some (.int hh), none], [.int (-2)], M)) rfl ?_
          exact q_Wp.rt rfl rfl ⟨by simp [s_r3, *], by simp [s_m3, *]⟩
      · -- tff
        refine q_Wp.gn 0 (c' := (32, [some (.ref 0), some (.int (nI k)), some (.int lw), some (.int hh), none], [.int (-1)], M)) rfl ?_
        exact q_Wp.rt rfl rfl ⟨by simp [s_r3, *], by simp [s_m3, *]⟩
  · -- f
    refine q_Wp.gn 0 (c' := (10, [some (.ref 0), some (.int c), some (.int lw), some (.int hh), none], [.int (-1)], M)) rfl ?_
    exact q_Wp.rt rfl rfl ⟨by simp [s_r3, *], by simp [s_m3, *]⟩

set_option maxRecDepth 10000 in
theorem m_share (X : q_X) (d : Nat) {on : Bool} (c lw hh : Int32) (M : q_M) (hon : M.1 34 13 = q_b on) : q_Ev X (d + 2) 73 [.ref 34, .int c, .int lw, .int hh] M (some (.int (s_r3 (s_in c 0 2 && (s_in lw 0 6 && s_in hh lw 6)) on (M.1 41 c.toNatClampNeg)))) (s_m3 (s_in c 0 2 && (s_in lw 0 6 && s_in hh lw 6)) on (q_up (q_up M 41 c.toNatClampNeg lw) 42 c.toNatClampNeg hh) M) := by
  refine q_Ev.ofW rfl ?_
  show q_Wp X _ 73 (0, [some (.ref 34), some (.int c), some (.int lw), some (.int hh), none], [], M) _
  refine q_Wp.gc 3 (mj := 67) (as := [.int c, .int 0, .int 2]) (pc := 6) (ls := [some (.ref 34), some (.int c), some (.int lw), some (.int hh), none]) (st := []) (M := M) (r1 := some (.int (q_b (s_in c 0 2)))) (M1 := M) rfl (c_in X d c 0 2 M) ?_
  show q_Wp X _ 73 (6, [some (.ref 34), some (.int c), some (.int lw), some (.int hh), none], [.int (q_b (s_in c 0 2))], M) _
  refine q_Wp.ge0 0 (b := (s_in c 0 2)) (c1 := (29, [some (.ref 34), some (.int c), some (.int lw), some (.int hh), none], [], M)) (c2 := (9, [some (.ref 34), some (.int c), some (.int lw), some (.int hh), none], [], M)) rfl (fun h1 => ?_) (fun h1 => ?_)
  · -- t
    refine q_Wp.gn 0 (c' := (30, [some (.ref 34), some (.int c), some (.int lw), some (.int hh), none], [.int (-1)], M)) rfl ?_
    exact q_Wp.rt rfl rfl ⟨by simp [s_r3, *], by simp [s_m3, *]⟩
  · -- f
    obtain ⟨k, -, hk, rfl⟩ := s_in_inv (a := 0) (b := 2) (by decide) (by decide) h1
    have hck : (nI k).toNatClampNeg = k := nI_clamp (by omega)
    refine q_Wp.gc 3 (mj := 67) (as := [.int lw, .int 0, .int 6]) (pc := 16) (ls := [some (.ref 34), some (.int (nI k)), some (.int lw), some (.int hh), none]) (st := []) (M := M) (r1 := some (.int (q_b (s_in lw 0 6)))) (M1 := M) rfl (c_in X d lw 0 6 M) ?_
    show q_Wp X _ 73 (16, [some (.ref 34), some (.int (nI k)), some (.int lw), some (.int hh), none], [.int (q_b (s_in lw 0 6))], M) _
    refine q_Wp.ge0 0 (b := (s_in lw 0 6)) (c1 := (29, [some (.ref 34), some (.int (nI k)), some (.int lw), some (.int hh), none], [], M)) (c2 := (19, [some (.ref 34), some (.int (nI k)), some (.int lw), some (.int hh), none], [], M)) rfl (fun h2 => ?_) (fun h2 => ?_)
    · -- ft
      refine q_Wp.gn 0 (c' := (30, [some (.ref 34), some (.int (nI k)), some (.int lw), some (.int hh), none], [.int (-1)], M)) rfl ?_
      exact q_Wp.rt rfl rfl ⟨by simp [s_r3, *], by simp [s_m3, *]⟩
    · -- ff
      refine q_Wp.gc 3 (mj := 67) (as := [.int hh, .int lw, .int 6]) (pc := 26) (ls := [some (.ref 34), some (.int (nI k)), some (.int lw), some (.int hh), none]) (st := []) (M := M) (r1 := some (.int (q_b (s_in hh lw 6)))) (M1 := M) rfl (c_in X d hh lw 6 M) ?_
      show q_Wp X _ 73 (26, [some (.ref 34), some (.int (nI k)), some (.int lw), some (.int hh), none], [.int (q_b (s_in hh lw 6))], M) _
      refine q_Wp.gn0 0 (b := (s_in hh lw 6)) (c1 := (31, [some (.ref 34), some (.int (nI k)), some (.int lw), some (.int hh), none], [], M)) (c2 := (29, [some (.ref 34), some (.int (nI k)), some (.int lw), some (.int hh), none], [], M)) rfl (fun h3 => ?_) (fun h3 => ?_)
      · -- fft
        refine q_Wp.gn 1 (c' := (35, [some (.ref 34), some (.int (nI k)), some (.int lw), some (.int hh), none], [.int (M.1 34 13)], M)) rfl ?_
        refine q_Wp.cv (c' := (35, [some (.ref 34), some (.int (nI k)), some (.int lw), some (.int hh), none], [.int (q_b on)], M)) (by first | rw [hon] | simp only [hon]) ?_
        refine q_Wp.ge0 0 (b := on) (c1 := (41, [some (.ref 34), some (.int (nI k)), some (.int lw), some (.int hh), none], [], M)) (c2 := (38, [some (.ref 34), some (.int (nI k)), some (.int lw), some (.int hh), none], [], M)) rfl (fun h4 => ?_) (fun h4 => ?_)
        · -- fftt
          refine q_Wp.gn 2 (c' := (46, [some (.ref 34), some (.int (nI k)), some (.int lw), some (.int hh), none], [.int (nI k), .ref 41], M)) rfl ?_
          refine q_Wp.ild (i := k) rfl (rfl) rfl (by omega) (by decide) ?_
          show q_Wp X _ 73 (47, [some (.ref 34), some (.int (nI k)), some (.int lw), some (.int hh), none], [.int (M.1 41 k)], M) _
          refine q_Wp.gn 4 (c' := (55, [some (.ref 34), some (.int (nI k)), some (.int lw), some (.int hh), some (.int (M.1 41 k))], [.int lw, .int (nI k), .ref 41], M)) rfl ?_
          refine q_Wp.ist (i := k) rfl (rfl) rfl (by omega) (by decide) ?_
          show q_Wp X _ 73 (56, [some (.ref 34), some (.int (nI k)), some (.int lw), some (.int hh), some (.int (M.1 41 k))], [], q_up M 41 k lw) _
          refine q_Wp.gn 3 (c' := (62, [some (.ref 34), some (.int (nI k)), some (.int lw), some (.int hh), some (.int (M.1 41 k))], [.int hh, .int (nI k), .ref 42], q_up M 41 k lw)) rfl ?_
          refine q_Wp.ist (i := k) rfl (rfl) rfl (by omega) (by decide) ?_
          show q_Wp X _ 73 (63, [some (.ref 34), some (.int (nI k)), some (.int lw), some (.int hh), some (.int (M.1 41 k))], [], q_up (q_up M 41 k lw) 42 k hh) _
          refine q_Wp.gn 0 (c' := (65, [some (.ref 34), some (.int (nI k)), some (.int lw), some (.int hh), some (.int (M.1 41 k))], [.int (M.1 41 k)], q_up (q_up M 41 k lw) 42 k hh)) rfl ?_
          exact q_Wp.rt rfl rfl ⟨by simp [s_r3, *], by simp [s_m3, *]⟩
        · -- fftf
          refine q_Wp.gn 0 (c' := (40, [some (.ref 34), some (.int (nI k)), some (.int lw), some (.int hh), none], [.int (-2)], M)) rfl ?_
          exact q_Wp.rt rfl rfl ⟨by simp [s_r3, *], by simp [s_m3, *]⟩
      · -- fff
        refine q_Wp.gn 0 (c' := (30, [some (.ref 34), some (.int (nI k)), some (.int lw), some (.int hh), none], [.int (-1)], M)) rfl ?_
        exact q_Wp.rt rfl rfl ⟨by simp [s_r3, *], by simp [s_m3, *]⟩

set_option maxRecDepth 10000 in
theorem c_sure (X : q_X) (d : Nat) {on : Bool} (a b : Int32) (M : q_M) (hon : M.1 23 0 = q_b on) : q_Ev X (d + 2) 32 [.ref 0, .int a, .int b] M (some (.int (s_r3 ((s_in b 1 20 && s_in a 1 b) && !decide (2 * a ≤ b)) on (M.1 13 1)))) (s_m3 ((s_in b 1 20 && s_in a 1 b) && !decide (2 * a ≤ b)) on (q_up (q_up M 13 1 a) 13 2 b) M) := by
  refine q_Ev.ofW rfl ?_
  show q_Wp X _ 32 (0, [some (.ref 0), some (.int a), some (.int b), none], [], M) _
  refine q_Wp.gc 3 (mj := 55) (as := [.int b, .int 1, .int 20]) (pc := 7) (ls := [some (.ref 0), some (.int a), some (.int b), none]) (st := []) (M := M) (r1 := some (.int (q_b (s_in b 1 20)))) (M1 := M) rfl (c_isWithin X d b 1 20 M) ?_
  show q_Wp X _ 32 (7, [some (.ref 0), some (.int a), some (.int b), none], [.int (q_b (s_in b 1 20))], M) _
  refine q_Wp.ge0 0 (b := (s_in b 1 20)) (c1 := (26, [some (.ref 0), some (.int a), some (.int b), none], [], M)) (c2 := (10, [some (.ref 0), some (.int a), some (.int b), none], [], M)) rfl (fun h1 => ?_) (fun h1 => ?_)
  · -- t
    refine q_Wp.gn 0 (c' := (27, [some (.ref 0), some (.int a), some (.int b), none], [.int (-1)], M)) rfl ?_
    exact q_Wp.rt rfl rfl ⟨by simp [s_r3, *], by simp [s_m3, *]⟩
  · -- f
    refine q_Wp.gc 3 (mj := 55) (as := [.int a, .int 1, .int b]) (pc := 16) (ls := [some (.ref 0), some (.int a), some (.int b), none]) (st := []) (M := M) (r1 := some (.int (q_b (s_in a 1 b)))) (M1 := M) rfl (c_isWithin X d a 1 b M) ?_
    show q_Wp X _ 32 (16, [some (.ref 0), some (.int a), some (.int b), none], [.int (q_b (s_in a 1 b))], M) _
    refine q_Wp.ge0 0 (b := (s_in a 1 b)) (c1 := (26, [some (.ref 0), some (.int a), some (.int b), none], [], M)) (c2 := (19, [some (.ref 0), some (.int a), some (.int b), none], [], M)) rfl (fun h2 => ?_) (fun h2 => ?_)
    · -- ft
      refine q_Wp.gn 0 (c' := (27, [some (.ref 0), some (.int a), some (.int b), none], [.int (-1)], M)) rfl ?_
      exact q_Wp.rt rfl rfl ⟨by simp [s_r3, *], by simp [s_m3, *]⟩
    · -- ff
      refine q_Wp.gd 4 (b < (2 * a)) (c1 := (28, [some (.ref 0), some (.int a), some (.int b), none], [], M)) (c2 := (26, [some (.ref 0), some (.int a), some (.int b), none], [], M)) rfl (fun h3 => ?_) (fun h3 => ?_)
      · -- fft
        refine q_Wp.gn 2 (c' := (35, [some (.ref 0), some (.int a), some (.int b), none], [.int (M.1 23 0)], M)) rfl ?_
        refine q_Wp.cv (c' := (35, [some (.ref 0), some (.int a), some (.int b), none], [.int (q_b on)], M)) (by first | rw [hon] | simp only [hon]) ?_
        refine q_Wp.ge0 0 (b := on) (c1 := (41, [some (.ref 0), some (.int a), some (.int b), none], [], M)) (c2 := (38, [some (.ref 0), some (.int a), some (.int b), none], [], M)) rfl (fun h4 => ?_) (fun h4 => ?_)
        · -- fftt
          refine q_Wp.gn 12 (c' := (66, [some (.ref 0), some (.int a), some (.int b), some (.int (M.1 13 1))], [.int (M.1 13 1)], q_up (q_up M 13 1 a) 13 2 b)) rfl ?_
          exact q_Wp.rt rfl rfl ⟨by simp [s_r3, *], by simp [s_m3, *]⟩
        · -- fftf
          refine q_Wp.gn 0 (c' := (40, [some (.ref 0), some (.int a), some (.int b), none], [.int (-2)], M)) rfl ?_
          exact q_Wp.rt rfl rfl ⟨by simp [s_r3, *], by simp [s_m3, *]⟩
      · -- fff
        refine q_Wp.gn 0 (c' := (27, [some (.ref 0), some (.int a), some (.int b), none], [.int (-1)], M)) rfl ?_
        exact q_Wp.rt rfl rfl ⟨by simp [s_r3, *], by simp [s_m3, *]⟩

set_option maxRecDepth 10000 in
theorem m_sure (X : q_X) (d : Nat) {on : Bool} (a b : Int32) (M : q_M) (hon : M.1 34 13 = q_b on) : q_Ev X (d + 2) 74 [.ref 34, .int a, .int b] M (some (.int (s_r3 ((s_in a 1 20 && s_in b a 20) && !decide (2 * a ≤ b)) on (M.1 34 10)))) (s_m3 ((s_in a 1 20 && s_in b a 20) && !decide (2 * a ≤ b)) on (q_up (q_up M 34 10 a) 34 11 b) M) := by
  refine q_Ev.ofW rfl ?_
  show q_Wp X _ 74 (0, [some (.ref 34), some (.int a), some (.int b), none], [], M) _
  refine q_Wp.gc 3 (mj := 67) (as := [.int a, .int 1, .int 20]) (pc := 7) (ls := [some (.ref 34), some (.int a), some (.int b), none]) (st := []) (M := M) (r1 := some (.int (q_b (s_in a 1 20)))) (M1 := M) rfl (c_in X d a 1 20 M) ?_
  show q_Wp X _ 74 (7, [some (.ref 34), some (.int a), some (.int b), none], [.int (q_b (s_in a 1 20))], M) _
  refine q_Wp.ge0 0 (b := (s_in a 1 20)) (c1 := (27, [some (.ref 34), some (.int a), some (.int b), none], [], M)) (c2 := (10, [some (.ref 34), some (.int a), some (.int b), none], [], M)) rfl (fun h1 => ?_) (fun h1 => ?_)
  · -- t
    refine q_Wp.gn 0 (c' := (28, [some (.ref 34), some (.int a), some (.int b), none], [.int (-1)], M)) rfl ?_
    exact q_Wp.rt rfl rfl ⟨by simp [s_r3, Int32.not_lt, Int32.not_le, *], by simp [s_m3, Int32.not_lt, Int32.not_le, *]⟩
  · -- f
    refine q_Wp.gc 3 (mj := 67) (as := [.int b, .int a, .int 20]) (pc := 17) (ls := [some (.ref 34), some (.int a), some (.int b), none]) (st := []) (M := M) (r1 := some (.int (q_b (s_in b a 20)))) (M1 := M) rfl (c_in X d b a 20 M) ?_
    show q_Wp X _ 74 (17, [some (.ref 34), some (.int a), some (.int b), none], [.int (q_b (s_in b a 20))], M) _
    refine q_Wp.ge0 0 (b := (s_in b a 20)) (c1 := (27, [some (.ref 34), some (.int a), some (.int b), none], [], M)) (c2 := (20, [some (.ref 34), some (.int a), some (.int b), none], [], M)) rfl (fun h2 => ?_) (fun h2 => ?_)
    · -- ft
      refine q_Wp.gn 0 (c' := (28, [some (.ref 34), some (.int a), some (.int b), none], [.int (-1)], M)) rfl ?_
      exact q_Wp.rt rfl rfl ⟨by simp [s_r3, Int32.not_lt, Int32.not_le, *], by simp [s_m3, Int32.not_lt, Int32.not_le, *]⟩
    · -- ff
      refine q_Wp.gd 4 (b < (2 * a)) (c1 := (29, [some (.ref 34), some (.int a), some (.int b), none], [], M)) (c2 := (27, [some (.ref 34), some (.int a), some (.int b), none], [], M)) rfl (fun h3 => ?_) (fun h3 => ?_)
      · -- fft
        refine q_Wp.gn 1 (c' := (33, [some (.ref 34), some (.int a), some (.int b), none], [.int (M.1 34 13)], M)) rfl ?_
        refine q_Wp.cv (c' := (33, [some (.ref 34), some (.int a), some (.int b), none], [.int (q_b on)], M)) (by first | rw [hon] | simp only [hon]) ?_
        refine q_Wp.ge0 0 (b := on) (c1 := (39, [some (.ref 34), some (.int a), some (.int b), none], [], M)) (c2 := (36, [some (.ref 34), some (.int a), some (.int b), none], [], M)) rfl (fun h4 => ?_) (fun h4 => ?_)
        · -- fftt
          refine q_Wp.gn 9 (c' := (55, [some (.ref 34), some (.int a), some (.int b), some (.int (M.1 34 10))], [.int (M.1 34 10)], q_up (q_up M 34 10 a) 34 11 b)) rfl ?_
          exact q_Wp.rt rfl rfl ⟨by simp [s_r3, Int32.not_lt, Int32.not_le, *], by simp [s_m3, Int32.not_lt, Int32.not_le, *]⟩
        · -- fftf
          refine q_Wp.gn 0 (c' := (38, [some (.ref 34), some (.int a), some (.int b), none], [.int (-2)], M)) rfl ?_
          exact q_Wp.rt rfl rfl ⟨by simp [s_r3, Int32.not_lt, Int32.not_le, *], by simp [s_m3, Int32.not_lt, Int32.not_le, *]⟩
      · -- fff
        refine q_Wp.gn 0 (c' := (28, [some (.ref 34), some (.int a), some (.int b), none], [.int (-1)], M)) rfl ?_
        exact q_Wp.rt rfl rfl ⟨by simp [s_r3, Int32.not_lt, Int32.not_le, *], by simp [s_m3, Int32.not_lt, Int32.not_le, *]⟩

set_option maxRecDepth 10000 in
theorem c_weight (X : q_X) (d : Nat) {on : Bool} (c v : Int32) (M : q_M) (hon : M.1 23 0 = q_b on) : q_Ev X (d + 3) 33 [.ref 0, .int c, .int v] M (some (.int (s_r3 (s_in c 0 5 && s_in v 1 3) on (M.1 16 c.toNatClampNeg)))) (s_m3 (s_in c 0 5 && s_in v 1 3) on (q_up M 16 c.toNatClampNeg v) M) := by
  refine q_Ev.ofW rfl ?_
  show q_Wp X _ 33 (0, [some (.ref 0), some (.int c), some (.int v), none], [], M) _
  refine q_Wp.gc 1 (mj := 56) (as := [.int c]) (pc := 4) (ls := [some (.ref 0), some (.int c), some (.int v), none]) (st := []) (M := M) (r1 := some (.int (q_b (s_in c 0 5)))) (M1 := M) rfl (c_isStep X d c M) ?_
  show q_Wp X _ 33 (4, [some (.ref 0), some (.int c), some (.int v), none], [.int (q_b (s_in c 0 5))], M) _
  refine q_Wp.ge0 0 (b := (s_in c 0 5)) (c1 := (16, [some (.ref 0), some (.int c), some (.int v), none], [], M)) (c2 := (7, [some (.ref 0), some (.int c), some (.int v), none], [], M)) rfl (fun h1 => ?_) (fun h1 => ?_)
  · -- t
    refine q_Wp.gn 0 (c' := (17, [some (.ref 0), some (.int c), some (.int v), none], [.int (-1)], M)) rfl ?_
    exact q_Wp.rt rfl rfl ⟨by simp [s_r3, *], by simp [s_m3, *]⟩
  · -- f
    obtain ⟨k, -, hk, rfl⟩ := s_in_inv (a := 0) (b := 5) (by decide) (by decide) h1
    have hck : (nI k).toNatClampNeg = k := nI_clamp (by omega)
    refine q_Wp.gc 3 (mj := 55) (as := [.int v, .int 1, .int 3]) (pc := 13) (ls := [some (.ref 0), some (.int (nI k)), some (.int v), none]) (st := []) (M := M) (r1 := some (.int (q_b (s_in v 1 3)))) (M1 := M) rfl (c_isWithin X (d + 1) v 1 3 M) ?_
    show q_Wp X _ 33 (13, [some (.ref 0), some (.int (nI k)), some (.int v), none], [.int (q_b (s_in v 1 3))], M) _
    refine q_Wp.gn0 0 (b := (s_in v 1 3)) (c1 := (18, [some (.ref 0), some (.int (nI k)), some (.int v), none], [], M)) (c2 := (16, [some (.ref 0), some (.int (nI k)), some (.int v), none], [], M)) rfl (fun h2 => ?_) (fun h2 => ?_)
    · -- ft
      refine q_Wp.gn 2 (c' := (25, [some (.ref 0), some (.int (nI k)), some (.int v), none], [.int (M.1 23 0)], M)) rfl ?_
      refine q_Wp.cv (c' := (25, [some (.ref 0), some (.int (nI k)), some (.int v), none], [.int (q_b on)], M)) (by first | rw [hon] | simp only [hon]) ?_
      refine q_Wp.ge0 0 (b := on) (c1 := (31, [some (.ref 0), some (.int (nI k)), some (.int v), none], [], M)) (c2 := (28, [some (.ref 0), some (.int (nI k)), some (.int v), none], [], M)) rfl (fun h3 => ?_) (fun h3 => ?_)
      · -- ftt
        refine q_Wp.gn 3 (c' := (39, [some (.ref 0), some (.int (nI k)), some (.int v), none], [.int (nI k), .ref 16], M)) rfl ?_
        refine q_Wp.ild (i := k) rfl (rfl) rfl (by omega) (by decide) ?_
        show q_Wp X _ 33 (40, [some (.ref 0), some (.int (nI k)), some (.int v), none], [.int (M.1 16 k)], M) _
        refine q_Wp.gn 5 (c' := (50, [some (.ref 0), some (.int (nI k)), some (.int v), some (.int (M.1 16 k))], [.int v, .int (nI k), .ref 16], M)) rfl ?_
        refine q_Wp.ist (i := k) rfl (rfl) rfl (by omega) (by decide) ?_
        show q_Wp X _ 33 (51, [some (.ref 0), some (.int (nI k)), some (.int v), some (.int (M.1 16 k))], [], q_up M 16 k v) _
        refine q_Wp.gn 0 (c' := (52, [some (.ref 0), some (.int (nI k)), some (.int v), some (.int (M.1 16 k))], [.int (M.1 16 k)], q_up M 16 k v)) rfl ?_
        exact q_Wp.rt rfl rfl ⟨by simp [s_r3, *], by simp [s_m3, *]⟩
      · -- ftf
        refine q_Wp.gn 0 (c' := (30, [some (.ref 0), some (.int (nI k)), some (.int v), none], [.int (-2)], M)) rfl ?_
        exact q_Wp.rt rfl rfl ⟨by simp [s_r3, *], by simp [s_m3, *]⟩
    · -- ff
      refine q_Wp.gn 0 (c' := (17, [some (.ref 0), some (.int (nI k)), some (.int v), none], [.int (-1)], M)) rfl ?_
      exact q_Wp.rt rfl rfl ⟨by simp [s_r3, *], by simp [s_m3, *]⟩

set_option maxRecDepth 10000 in
theorem m_weight (X : q_X) (d : Nat) {on : Bool} (c v : Int32) (M : q_M) (hon : M.1 34 13 = q_b on) : q_Ev X (d + 2) 75 [.ref 34, .int c, .int v] M (some (.int (s_r3 (s_in c 0 5 && s_in v 1 3) on (M.1 43 c.toNatClampNeg)))) (s_m3 (s_in c 0 5 && s_in v 1 3) on (q_up M 43 c.toNatClampNeg v) M) := by
  refine q_Ev.ofW rfl ?_
  show q_Wp X _ 75 (0, [some (.ref 34), some (.int c), some (.int v), none], [], M) _
  refine q_Wp.gc 3 (mj := 67) (as := [.int c, .int 0, .int 5]) (pc := 6) (ls := [some (.ref 34), some (.int c), some (.int v), none]) (st := []) (M := M) (r1 := some (.int (q_b (s_in c 0 5)))) (M1 := M) rfl (c_in X d c 0 5 M) ?_
  show q_Wp X _ 75 (6, [some (.ref 34), some (.int c), some (.int v), none], [.int (q_b (s_in c 0 5))], M) _
  refine q_Wp.ge0 0 (b := (s_in c 0 5)) (c1 := (18, [some (.ref 34), some (.int c), some (.int v), none], [], M)) (c2 := (9, [some (.ref 34), some (.int c), some (.int v), none], [], M)) rfl (fun h1 => ?_) (fun h1 => ?_)
  · -- t
    refine q_Wp.gn 0 (c' := (19, [some (.ref 34), some (.int c), some (.int v), none], [.int (-1)], M)) rfl ?_
    exact q_Wp.rt rfl rfl ⟨by simp [s_r3, *], by simp [s_m3, *]⟩
  · -- f
    obtain ⟨k, -, hk, rfl⟩ := s_in_inv (a := 0) (b := 5) (by decide) (by decide) h1
    have hck : (nI k).toNatClampNeg = k := nI_clamp (by omega)
    refine q_Wp.gc 3 (mj := 67) (as := [.int v, .int 1, .int 3]) (pc := 15) (ls := [some (.ref 34), some (.int (nI k)), some (.int v), none]) (st := []) (M := M) (r1 := some (.int (q_b (s_in v 1 3)))) (M1 := M) rfl (c_in X d v 1 3 M) ?_
    show q_Wp X _ 75 (15, [some (.ref 34), some (.int (nI k)), some (.int v), none], [.int (q_b (s_in v 1 3))], M) _
    refine q_Wp.gn0 0 (b := (s_in v 1 3)) (c1 := (20, [some (.ref 34), some (.int (nI k)), some (.int v), none], [], M)) (c2 := (18, [some (.ref 34), some (.int (nI k)), some (.int v), none], [], M)) rfl (fun h2 => ?_) (fun h2 => ?_)
    · -- ft
      refine q_Wp.gn 1 (c' := (24, [some (.ref 34), some (.int (nI k)), some (.int v), none], [.int (M.1 34 13)], M)) rfl ?_
      refine q_Wp.cv (c' := (24, [some (.ref 34), some (.int (nI k)), some (.int v), none], [.int (q_b on)], M)) (by first | rw [hon] | simp only [hon]) ?_
      refine q_Wp.ge0 0 (b := on) (c1 := (30, [some (.ref 34), some (.int (nI k)), some (.int v), none], [], M)) (c2 := (27, [some (.ref 34), some (.int (nI k)), some (.int v), none], [], M)) rfl (fun h3 => ?_) (fun h3 => ?_)
      · -- ftt
        refine q_Wp.gn 2 (c' := (35, [some (.ref 34), some (.int (nI k)), some (.int v), none], [.int (nI k), .ref 43], M)) rfl ?_
        refine q_Wp.ild (i := k) rfl (rfl) rfl (by omega) (by decide) ?_
        show q_Wp X _ 75 (36, [some (.ref 34), some (.int (nI k)), some (.int v), none], [.int (M.1 43 k)], M) _
        refine q_Wp.gn 4 (c' := (43, [some (.ref 34), some (.int (nI k)), some (.int v), some (.int (M.1 43 k))], [.int v, .int (nI k), .ref 43], M)) rfl ?_
        refine q_Wp.ist (i := k) rfl (rfl) rfl (by omega) (by decide) ?_
        show q_Wp X _ 75 (44, [some (.ref 34), some (.int (nI k)), some (.int v), some (.int (M.1 43 k))], [], q_up M 43 k v) _
        refine q_Wp.gn 0 (c' := (45, [some (.ref 34), some (.int (nI k)), some (.int v), some (.int (M.1 43 k))], [.int (M.1 43 k)], q_up M 43 k v)) rfl ?_
        exact q_Wp.rt rfl rfl ⟨by simp [s_r3, *], by simp [s_m3, *]⟩
      · -- ftf
        refine q_Wp.gn 0 (c' := (29, [some (.ref 34), some (.int (nI k)), some (.int v), none], [.int (-2)], M)) rfl ?_
        exact q_Wp.rt rfl rfl ⟨by simp [s_r3, *], by simp [s_m3, *]⟩
    · -- ff
      refine q_Wp.gn 0 (c' := (19, [some (.ref 34), some (.int (nI k)), some (.int v), none], [.int (-1)], M)) rfl ?_
      exact q_Wp.rt rfl rfl ⟨by simp [s_r3, *], by simp [s_m3, *]⟩

set_option maxRecDepth 10000 in
theorem c_now (X : q_X) (d : Nat) {on : Bool} {t : Nat} (ht : t ≤ 6) (c : Int32) (M : q_M) (hon : M.1 23 0 = q_b on) (hT : on = true → M.1 23 2 = nI t) : q_Ev X (d + 4) 45 [.ref 0, .int c] M (some (.int (s_r3 (s_in c 0 5) (!on) (M.1 (27 + t) c.toNatClampNeg)))) (M) := by
  refine q_Ev.ofW rfl ?_
  show q_Wp X _ 45 (0, [some (.ref 0), some (.int c)], [], M) _
  refine q_Wp.gc 1 (mj := 56) (as := [.int c]) (pc := 4) (ls := [some (.ref 0), some (.int c)]) (st := []) (M := M) (r1 := some (.int (q_b (s_in c 0 5)))) (M1 := M) rfl (c_isStep X (d + 1) c M) ?_
  show q_Wp X _ 45 (4, [some (.ref 0), some (.int c)], [.int (q_b (s_in c 0 5))], M) _
  refine q_Wp.gn0 0 (b := (s_in c 0 5)) (c1 := (9, [some (.ref 0), some (.int c)], [], M)) (c2 := (7, [some (.ref 0), some (.int c)], [], M)) rfl (fun h1 => ?_) (fun h1 => ?_)
  · -- t
    obtain ⟨k, -, hk, rfl⟩ := s_in_inv (a := 0) (b := 5) (by decide) (by decide) h1
    have hck : (nI k).toNatClampNeg = k := nI_clamp (by omega)
    refine q_Wp.gn 2 (c' := (16, [some (.ref 0), some (.int (nI k))], [.int (M.1 23 0)], M)) rfl ?_
    refine q_Wp.cv (c' := (16, [some (.ref 0), some (.int (nI k))], [.int (q_b on)], M)) (by first | rw [hon] | simp only [hon]) ?_
    refine q_Wp.gn0 0 (b := on) (c1 := (22, [some (.ref 0), some (.int (nI k))], [], M)) (c2 := (19, [some (.ref 0), some (.int (nI k))], [], M)) rfl (fun h2 => ?_) (fun h2 => ?_)
    · -- tt
      refine q_Wp.gc 2 (mj := 23) (as := [.ref 23]) (pc := 29) (ls := [some (.ref 0), some (.int (nI k))]) (st := []) (M := M) (r1 := some (.ref (27 + t))) (M1 := M) rfl (c_weights X d (by omega) M (hT h2)) ?_
      show q_Wp X _ 45 (29, [some (.ref 0), some (.int (nI k))], [.ref (27 + t)], M) _
      refine q_Wp.gn 0 (c' := (30, [some (.ref 0), some (.int (nI k))], [.int (nI k), .ref (27 + t)], M)) rfl ?_
      refine q_Wp.ild (i := k) rfl (q_kd_rows (q := t) (by omega)) rfl (by omega) (by decide) ?_
      show q_Wp X _ 45 (31, [some (.ref 0), some (.int (nI k))], [.int (M.1 (27 + t) k)], M) _
      exact q_Wp.rt rfl rfl ⟨by simp [s_r3, *], by rfl⟩
    · -- tf
      refine q_Wp.gn 0 (c' := (21, [some (.ref 0), some (.int (nI k))], [.int (-2)], M)) rfl ?_
      exact q_Wp.rt rfl rfl ⟨by simp [s_r3, *], by rfl⟩
  · -- f
    refine q_Wp.gn 0 (c' := (8, [some (.ref 0), some (.int c)], [.int (-1)], M)) rfl ?_
    exact q_Wp.rt rfl rfl ⟨by simp [s_r3, *], by rfl⟩

set_option maxRecDepth 10000 in
theorem m_now (X : q_X) (d : Nat) {on : Bool} {t : Nat} (ht : t ≤ 6) (c : Int32) (M : q_M) (hon : M.1 34 13 = q_b on) (hT : on = true → M.1 34 15 = nI t) : q_Ev X (d + 2) 103 [.ref 34, .int c] M (some (.int (s_r3 (s_in c 0 5) (!on) (M.1 46 (6 * t + c.toNatClampNeg))))) (M) := by
  refine q_Ev.ofW rfl ?_
  show q_Wp X _ 103 (0, [some (.ref 34), some (.int c)], [], M) _
  refine q_Wp.gc 3 (mj := 67) (as := [.int c, .int 0, .int 5]) (pc := 6) (ls := [some (.ref 34), some (.int c)]) (st := []) (M := M) (r1 := some (.int (q_b (s_in c 0 5)))) (M1 := M) rfl (c_in X d c 0 5 M) ?_
  show q_Wp X _ 103 (6, [some (.ref 34), some (.int c)], [.int (q_b (s_in c 0 5))], M) _
  refine q_Wp.gn0 0 (b := (s_in c 0 5)) (c1 := (13, [some (.ref 34), some (.int c)], [], M)) (c2 := (9, [some (.ref 34), some (.int c)], [], M)) rfl (fun h1 => ?_) (fun h1 => ?_)
  · -- t
    obtain ⟨k, -, hk, rfl⟩ := s_in_inv (a := 0) (b := 5) (by decide) (by decide) h1
    have hck : (nI k).toNatClampNeg = k := nI_clamp (by omega)
    refine q_Wp.gn 1 (c' := (17, [some (.ref 34), some (.int (nI k))], [.int (M.1 34 13)], M)) rfl ?_
    refine q_Wp.cv (c' := (17, [some (.ref 34), some (.int (nI k))], [.int (q_b on)], M)) (by first | rw [hon] | simp only [hon]) ?_
    refine q_Wp.gn0 0 (b := on) (c1 := (25, [some (.ref 34), some (.int (nI k))], [], M)) (c2 := (20, [some (.ref 34), some (.int (nI k))], [], M)) rfl (fun h2 => ?_) (fun h2 => ?_)
    · -- tt
      refine q_Wp.gn 4 (c' := (35, [some (.ref 34), some (.int (nI k))], [.int (M.1 34 15), .int 6, .ref 46], M)) rfl ?_
      refine q_Wp.cv (c' := (35, [some (.ref 34), some (.int (nI k))], [.int (nI t), .int 6, .ref 46], M)) (by first | rw [hT h2] | simp only [hT h2]) ?_
      refine q_Wp.gn 2 (c' := (38, [some (.ref 34), some (.int (nI k))], [.int ((6 * (nI t)) + (nI k)), .ref 46], M)) rfl ?_
      refine q_Wp.cv (c' := (38, [some (.ref 34), some (.int (nI k))], [.int (nI (6 * t + k)), .ref 46], M)) (by first | rw [s_6] | simp only [s_6]) ?_
      refine q_Wp.ild (i := (6 * t + k)) rfl (rfl) rfl (by omega) (by decide) ?_
      show q_Wp X _ 103 (39, [some (.ref 34), some (.int (nI k))], [.int (M.1 46 (6 * t + k))], M) _
      exact q_Wp.rt rfl rfl ⟨by simp [s_r3, *], by rfl⟩
    · -- tf
      refine q_Wp.gn 1 (c' := (39, [some (.ref 34), some (.int (nI k))], [.int (-2)], M)) rfl ?_
      exact q_Wp.rt rfl rfl ⟨by simp [s_r3, *], by rfl⟩
  · -- f
    refine q_Wp.gn 1 (c' := (39, [some (.ref 34), some (.int c)], [.int (-1)], M)) rfl ?_
    exact q_Wp.rt rfl rfl ⟨by simp [s_r3, *], by rfl⟩

set_option maxRecDepth 10000 in
theorem c_about (X : q_X) (d : Nat) {n : Nat} (hn : n ≤ 10) (q v : Int32) (M : q_M) (hsz : M.1 1 0 = nI n) : q_Ev X (d + 3) 34 [.ref 0, .int q, .int v] M (some (.int (if (s_has (nI n) q && s_in v 0 10) = true then M.1 (3 + q.toNatClampNeg) v.toNatClampNeg else -1))) (M) := by
  refine q_Ev.ofW rfl ?_
  show q_Wp X _ 34 (0, [some (.ref 0), some (.int q), some (.int v)], [], M) _
  refine q_Wp.gc 3 (mj := 2) (as := [.ref 1, .int q]) (pc := 8) (ls := [some (.ref 0), some (.int q), some (.int v)]) (st := []) (M := M) (r1 := some (.int (q_b (s_has (M.1 1 0) q)))) (M1 := M) rfl (c_has X (d + 1) q M) ?_
  show q_Wp X _ 34 (8, [some (.ref 0), some (.int q), some (.int v)], [.int (q_b (s_has (M.1 1 0) q))], M) _
  refine q_Wp.cv (c' := (8, [some (.ref 0), some (.int q), some (.int v)], [.int (q_b (s_has (nI n) q))], M)) (by first | rw [hsz] | simp only [hsz]) ?_
  refine q_Wp.ge0 0 (b := (s_has (nI n) q)) (c1 := (21, [some (.ref 0), some (.int q), some (.int v)], [], M)) (c2 := (11, [some (.ref 0), some (.int q), some (.int v)], [], M)) rfl (fun h1 => ?_) (fun h1 => ?_)
  · -- t
    refine q_Wp.gn 0 (c' := (22, [some (.ref 0), some (.int q), some (.int v)], [.int (-1)], M)) rfl ?_
    exact q_Wp.rt rfl rfl ⟨by simp [*], by rfl⟩
  · -- f
    obtain ⟨k, hk, rfl⟩ := s_has_inv hn h1
    have hck : (nI k).toNatClampNeg = k := nI_clamp (by omega)
    refine q_Wp.gc 3 (mj := 55) (as := [.int v, .int 0, .int 10]) (pc := 18) (ls := [some (.ref 0), some (.int (nI k)), some (.int v)]) (st := []) (M := M) (r1 := some (.int (q_b (s_in v 0 10)))) (M1 := M) rfl (c_isWithin X (d + 1) v 0 10 M) ?_
    show q_Wp X _ 34 (18, [some (.ref 0), some (.int (nI k)), some (.int v)], [.int (q_b (s_in v 0 10))], M) _
    refine q_Wp.gn0 0 (b := (s_in v 0 10)) (c1 := (23, [some (.ref 0), some (.int (nI k)), some (.int v)], [], M)) (c2 := (21, [some (.ref 0), some (.int (nI k)), some (.int v)], [], M)) rfl (fun h2 => ?_) (fun h2 => ?_)
    · -- ft
      obtain ⟨j, -, hj, rfl⟩ := s_in_inv (a := 0) (b := 10) (by decide) (by decide) h2
      have hcj : (nI j).toNatClampNeg = j := nI_clamp (by omega)
      refine q_Wp.gc 4 (mj := 4) (as := [.ref 1, .int (nI k), .int (nI j)]) (pc := 32) (ls := [some (.ref 0), some (.int (nI k)), some (.int (nI j))]) (st := []) (M := M) (r1 := some (.int (M.1 (3 + k) j))) (M1 := M) rfl (c_fact X d M hsz hk hn (by omega)) ?_
      show q_Wp X _ 34 (32, [some (.ref 0), some (.int (nI k)), some (.int (nI j))], [.int (M.1 (3 + k) j)], M) _
      exact q_Wp.rt rfl rfl ⟨by simp [*], by rfl⟩
    · -- ff
      refine q_Wp.gn 0 (c' := (22, [some (.ref 0), some (.int (nI k)), some (.int v)], [.int (-1)], M)) rfl ?_
      exact q_Wp.rt rfl rfl ⟨by simp [*], by rfl⟩

