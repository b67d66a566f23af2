/-! Contracts: the calls of the model, answer to count (by program: wip/whole/c31.py) -/
set_option maxRecDepth 10000 in
theorem m_answer_off (X : q_X) (d : Nat) {n : Nat} (q : Int32) (rg : Bool) (M : q_M) (hsz : M.1 34 0 = nI n) (hon : M.1 34 13 = 0) : q_Ev X (d + 6) 96 [.ref 34, .int q, .int (q_b rg)] M (some (.int (if s_in q 0 (nI n - 1) = true then -2 else -1))) (M) := by
  refine q_Ev.ofW rfl ?_
  show q_Wp X _ 96 (0, [some (.ref 34), some (.int q), some (.int (q_b rg))], [], M) _
  refine q_Wp.gc 2 (mj := 68) (as := [.ref 34, .int q]) (pc := 5) (ls := [some (.ref 34), some (.int q), some (.int (q_b rg))]) (st := []) (M := M) (r1 := some (.int (q_b (s_in q 0 ((M.1 34 0) - 1))))) (M1 := M) rfl (c_isQuestion X (d + 3) q M) ?_
  show q_Wp X _ 96 (5, [some (.ref 34), some (.int q), some (.int (q_b rg))], [.int (q_b (s_in q 0 ((M.1 34 0) - 1)))], M) _
  refine q_Wp.cv (c' := (5, [some (.ref 34), some (.int q), some (.int (q_b rg))], [.int (q_b (s_in q 0 ((nI n) - 1)))], M)) (by first | rw [hsz] | simp only [hsz]) ?_
  refine q_Wp.gn0 0 (b := (s_in q 0 ((nI n) - 1))) (c1 := (10, [some (.ref 34), some (.int q), some (.int (q_b rg))], [], M)) (c2 := (8, [some (.ref 34), some (.int q), some (.int (q_b rg))], [], M)) rfl (fun h1 => ?_) (fun h1 => ?_)
  · -- t
    refine q_Wp.gn 1 (c' := (14, [some (.ref 34), some (.int q), some (.int (q_b rg))], [.int (M.1 34 13)], M)) rfl ?_
    refine q_Wp.cv (c' := (14, [some (.ref 34), some (.int q), some (.int (q_b rg))], [.int 0], M)) (by first | rw [hon] | simp only [hon]) ?_
    refine q_Wp.gn 1 (c' := (38, [some (.ref 34), some (.int q), some (.int (q_b rg))], [.int (-2)], M)) rfl ?_
    exact q_Wp.rt rfl rfl ⟨by simp [*], by rfl⟩
  · -- f
    refine q_Wp.gn 0 (c' := (9, [some (.ref 34), some (.int q), some (.int (q_b rg))], [.int (-1)], M)) rfl ?_
    exact q_Wp.rt rfl rfl ⟨by simp [*], by rfl⟩

set_option maxRecDepth 10000 in
theorem m_answer_no (X : q_X) (d : Nat) {n t : Nat} {fa : Nat → Nat → Nat} {sh : Nat → Int32} {od A : Nat → Nat} {ft cn : Nat → Bool} (hO : ok_bank n fa) (hA : ok_ask t od A) (hS : A t < 2 ^ n) (q : Int32) (rg : Bool) (M : q_M) (hB : m_bank n fa sh M) (hon : M.1 34 13 = 1) (hF : ∀ U, U < 2 ^ n → M.1 47 U = q_b (ft U)) (hT : ∀ U, U < 2 ^ n → M.1 48 U = q_b (cn U)) (hQ : m_ask t od M) (hno : s_in q 0 (nI n - 1) = true → (s_done (ft (A t)) (s_sureM (s_row M t) (M.1 34 10) (M.1 34 11)) (s_ct n (s_may n fa cn (A t)))) ≤ 0 → s_may n fa cn (A t) q.toNatClampNeg = false) : q_Ev X (d + 6) 96 [.ref 34, .int q, .int (q_b rg)] M (some (.int (if s_in q 0 (nI n - 1) = true then -2 else -1))) (M) := by
  refine q_Ev.ofW rfl ?_
  show q_Wp X _ 96 (0, [some (.ref 34), some (.int q), some (.int (q_b rg))], [], M) _
  have hn := hO.1
  have ht := hA.1
  refine q_Wp.gc 2 (mj := 68) (as := [.ref 34, .int q]) (pc := 5) (ls := [some (.ref 34), some (.int q), some (.int (q_b rg))]) (st := []) (M := M) (r1 := some (.int (q_b (s_in q 0 ((M.1 34 0) - 1))))) (M1 := M) rfl (c_isQuestion X (d + 3) q M) ?_
  show q_Wp X _ 96 (5, [some (.ref 34), some (.int q), some (.int (q_b rg))], [.int (q_b (s_in q 0 ((M.1 34 0) - 1)))], M) _
  refine q_Wp.cv (c' := (5, [some (.ref 34), some (.int q), some (.int (q_b rg))], [.int (q_b (s_in q 0 ((nI n) - 1)))], M)) (by first | rw [hB.1] | simp only [hB.1]) ?_
  refine q_Wp.gn0 0 (b := (s_in q 0 ((nI n) - 1))) (c1 := (10, [some (.ref 34), some (.int q), some (.int (q_b rg))], [], M)) (c2 := (8, [some (.ref 34), some (.int q), some (.int (q_b rg))], [], M)) rfl (fun h1 => ?_) (fun h1 => ?_)
  · -- t
    obtain ⟨k, hk, rfl⟩ := s_has_inv hn ((s_has_in hn q).symm.trans h1)
    have hck : (nI k).toNatClampNeg = k := nI_clamp (by omega)
    refine q_Wp.gn 1 (c' := (14, [some (.ref 34), some (.int (nI k)), some (.int (q_b rg))], [.int (M.1 34 13)], M)) rfl ?_
    refine q_Wp.cv (c' := (14, [some (.ref 34), some (.int (nI k)), some (.int (q_b rg))], [.int 1], M)) (by first | rw [hon] | simp only [hon]) ?_
    refine q_Wp.gc 2 (mj := 94) (as := [.ref 34]) (pc := 21) (ls := [some (.ref 34), some (.int (nI k)), some (.int (q_b rg))]) (st := []) (M := M) (r1 := some (.int (s_done (ft (A t)) (s_sureM (s_row M t) (M.1 34 10) (M.1 34 11)) (s_ct n (s_may n fa cn (A t)))))) (M1 := M) rfl (c_doneNow X d (n := n) (t := t) (fa := fa) (sh := sh) (od := od) (A := A) (ft := ft) (cn := cn) hO hA hS M hB hF hT hQ) ?_
    show q_Wp X _ 96 (21, [some (.ref 34), some (.int (nI k)), some (.int (q_b rg))], [.int (s_done (ft (A t)) (s_sureM (s_row M t) (M.1 34 10) (M.1 34 11)) (s_ct n (s_may n fa cn (A t))))], M) _
    refine q_Wp.gd 0 (0 < (s_done (ft (A t)) (s_sureM (s_row M t) (M.1 34 10) (M.1 34 11)) (s_ct n (s_may n fa cn (A t))))) (c1 := (36, [some (.ref 34), some (.int (nI k)), some (.int (q_b rg))], [], M)) (c2 := (24, [some (.ref 34), some (.int (nI k)), some (.int (q_b rg))], [], M)) rfl (fun h2 => ?_) (fun h2 => ?_)
    · -- tt
      refine q_Wp.gn 0 (c' := (38, [some (.ref 34), some (.int (nI k)), some (.int (q_b rg))], [.int (-2)], M)) rfl ?_
      exact q_Wp.rt rfl rfl ⟨by simp [*], by rfl⟩
    · -- tf
      refine q_Wp.gc 3 (mj := 82) (as := [.ref 34]) (pc := 30) (ls := [some (.ref 34), some (.int (nI k)), some (.int (q_b rg))]) (st := [.int (nI k), .ref 34]) (M := M) (r1 := some (.int (nI (A t)))) (M1 := M) rfl (c_askedSet X (d + 4) (t := t) (od := od) (A := A) hA M hQ) ?_
      show q_Wp X _ 96 (30, [some (.ref 34), some (.int (nI k)), some (.int (q_b rg))], [.int (nI (A t)), .int (nI k), .ref 34], M) _
      refine q_Wp.gc 0 (mj := 84) (as := [.ref 34, .int (nI k), .int (nI (A t))]) (pc := 33) (ls := [some (.ref 34), some (.int (nI k)), some (.int (q_b rg))]) (st := []) (M := M) (r1 := some (.int (q_b (s_may n fa cn (A t) k)))) (M1 := M) rfl (c_mayBe X (d + 2) (n := n) (S := (A t)) (q := k) (fa := fa) (sh := sh) (cn := cn) hO hS (by omega) M hB hT) ?_
      show q_Wp X _ 96 (33, [some (.ref 34), some (.int (nI k)), some (.int (q_b rg))], [.int (q_b (s_may n fa cn (A t) k))], M) _
      refine q_Wp.gn0 0 (b := (s_may n fa cn (A t) k)) (c1 := (39, [some (.ref 34), some (.int (nI k)), some (.int (q_b rg))], [], M)) (c2 := (36, [some (.ref 34), some (.int (nI k)), some (.int (q_b rg))], [], M)) rfl (fun h3 => ?_) (fun h3 => ?_)
      · -- tft
        have hz := hno (by assumption) (Int32.not_lt.mp h2)
        rw [hck, h3] at hz
        cases hz
      · -- tff
        refine q_Wp.gn 0 (c' := (38, [some (.ref 34), some (.int (nI k)), some (.int (q_b rg))], [.int (-2)], M)) rfl ?_
        exact q_Wp.rt rfl rfl ⟨by simp [*], by rfl⟩
  · -- f
    refine q_Wp.gn 0 (c' := (9, [some (.ref 34), some (.int q), some (.int (q_b rg))], [.int (-1)], M)) rfl ?_
    exact q_Wp.rt rfl rfl ⟨by simp [*], by rfl⟩

set_option maxRecDepth 10000 in
theorem m_answer_ok (X : q_X) (d : Nat) {n t : Nat} {fa : Nat → Nat → Nat} {sh : Nat → Int32} {od A : Nat → Nat} {ft cn : Nat → Bool} (hO : ok_bank n fa) (hA : ok_ask t od A) (hS : A t < 2 ^ n) {k : Nat} (hk : k < n) (ht5 : t ≤ 5) (rg : Bool) (M : q_M) (hB : m_bank n fa sh M) (hon : M.1 34 13 = 1) (hF : ∀ U, U < 2 ^ n → M.1 47 U = q_b (ft U)) (hT : ∀ U, U < 2 ^ n → M.1 48 U = q_b (cn U)) (hQ : m_ask t od M) (hd : (s_done (ft (A t)) (s_sureM (s_row M t) (M.1 34 10) (M.1 34 11)) (s_ct n (s_may n fa cn (A t)))) ≤ 0) (hb : s_may n fa cn (A t) k = true) : q_Ep X (d + 6) 96 [.ref 34, .int (nI k), .int (q_b rg)] M (fun r M' => r = some (.int (nI (t + 1))) ∧ (∀ r, r ≠ 34 → r ≠ 39 → r ≠ 44 → r ≠ 45 → r ≠ 46 → M'.1 r = M.1 r) ∧ (∀ k, k ≠ 15 → M'.1 34 k = M.1 34 k) ∧ M'.1 34 15 = nI (t + 1) ∧ (∀ i, M'.1 39 i = if i = k then M.1 39 k + 1 else M.1 39 i) ∧ (∀ i, M'.1 44 i = if i = t then nI k else M.1 44 i) ∧ (∀ i, M'.1 45 i = if i = t then q_b rg else M.1 45 i) ∧ (∀ j, j < 6 * (t + 1) → M'.1 46 j = M.1 46 j) ∧ ∀ s, s < 6 → M'.1 46 (6 * (t + 1) + s) = M.1 46 (6 * t + s) * s_facM (M.1 35 k) (M.1 40 (6 * k + s)) (q_b rg)) := by
  refine q_Ep.ofW rfl ?_
  show q_Wp X _ 96 (0, [some (.ref 34), some (.int (nI k)), some (.int (q_b rg))], [], M) _
  have hn := hO.1
  have ht := hA.1
  have hh : s_in (nI k) 0 (nI n - 1) = true := (s_has_in hn _).trans (s_has_ok rfl hk hn)
  refine q_Wp.gc 2 (mj := 68) (as := [.ref 34, .int (nI k)]) (pc := 5) (ls := [some (.ref 34), some (.int (nI k)), some (.int (q_b rg))]) (st := []) (M := M) (r1 := some (.int (q_b (s_in (nI k) 0 ((M.1 34 0) - 1))))) (M1 := M) rfl (c_isQuestion X (d + 3) (nI k) M) ?_
  show q_Wp X _ 96 (5, [some (.ref 34), some (.int (nI k)), some (.int (q_b rg))], [.int (q_b (s_in (nI k) 0 ((M.1 34 0) - 1)))], M) _
  refine q_Wp.cv (c' := (5, [some (.ref 34), some (.int (nI k)), some (.int (q_b rg))], [.int (q_b (s_in (nI k) 0 ((nI n) - 1)))], M)) (by first | rw [hB.1] | simp only [hB.1]) ?_
  refine q_Wp.gn0 0 (b := (s_in (nI k) 0 ((nI n) - 1))) (c1 := (10, [some (.ref 34), some (.int (nI k)), some (.int (q_b rg))], [], M)) (c2 := (8, [some (.ref 34), some (.int (nI k)), some (.int (q_b rg))], [], M)) rfl (fun _ => ?_) (fun z => absurd (hh.symm.trans z) (by decide))
  refine q_Wp.gn 1 (c' := (14, [some (.ref 34), some (.int (nI k)), some (.int (q_b rg))], [.int (M.1 34 13)], M)) rfl ?_
  refine q_Wp.cv (c' := (14, [some (.ref 34), some (.int (nI k)), some (.int (q_b rg))], [.int 1], M)) (by first | rw [hon] | simp only [hon]) ?_
  refine q_Wp.gc 2 (mj := 94) (as := [.ref 34]) (pc := 21) (ls := [some (.ref 34), some (.int (nI k)), some (.int (q_b rg))]) (st := []) (M := M) (r1 := some (.int (s_done (ft (A t)) (s_sureM (s_row M t) (M.1 34 10) (M.1 34 11)) (s_ct n (s_may n fa cn (A t)))))) (M1 := M) rfl (c_doneNow X d (n := n) (t := t) (fa := fa) (sh := sh) (od := od) (A := A) (ft := ft) (cn := cn) hO hA hS M hB hF hT hQ) ?_
  show q_Wp X _ 96 (21, [some (.ref 34), some (.int (nI k)), some (.int (q_b rg))], [.int (s_done (ft (A t)) (s_sureM (s_row M t) (M.1 34 10) (M.1 34 11)) (s_ct n (s_may n fa cn (A t))))], M) _
  refine q_Wp.gd 0 (0 < (s_done (ft (A t)) (s_sureM (s_row M t) (M.1 34 10) (M.1 34 11)) (s_ct n (s_may n fa cn (A t))))) (c1 := (36, [some (.ref 34), some (.int (nI k)), some (.int (q_b rg))], [], M)) (c2 := (24, [some (.ref 34), some (.int (nI k)), some (.int (q_b rg))], [], M)) rfl (fun z => absurd z (Int32.not_lt.mpr hd)) (fun _ => ?_)
  refine q_Wp.gc 3 (mj := 82) (as := [.ref 34]) (pc := 30) (ls := [some (.ref 34), some (.int (nI k)), some (.int (q_b rg))]) (st := [.int (nI k), .ref 34]) (M := M) (r1 := some (.int (nI (A t)))) (M1 := M) rfl (c_askedSet X (d + 4) (t := t) (od := od) (A := A) hA M hQ) ?_
  show q_Wp X _ 96 (30, [some (.ref 34), some (.int (nI k)), some (.int (q_b rg))], [.int (nI (A t)), .int (nI k), .ref 34], M) _
  refine q_Wp.gc 0 (mj := 84) (as := [.ref 34, .int (nI k), .int (nI (A t))]) (pc := 33) (ls := [some (.ref 34), some (.int (nI k)), some (.int (q_b rg))]) (st := []) (M := M) (r1 := some (.int (q_b (s_may n fa cn (A t) k)))) (M1 := M) rfl (c_mayBe X (d + 2) (n := n) (S := (A t)) (q := k) (fa := fa) (sh := sh) (cn := cn) hO hS (by omega) M hB hT) ?_
  show q_Wp X _ 96 (33, [some (.ref 34), some (.int (nI k)), some (.int (q_b rg))], [.int (q_b (s_may n fa cn (A t) k))], M) _
  refine q_Wp.gn0 0 (b := (s_may n fa cn (A t) k)) (c1 := (39, [some (.ref 34), some (.int (nI k)), some (.int (q_b rg))], [], M)) (c2 := (36, [some (.ref 34), some (.int (nI k)), some (.int (q_b rg))], [], M)) rfl (fun _ => ?_) (fun z => absurd (hb.symm.trans z) (by decide))
  refine q_Wp.gn 2 (c' := (44, [some (.ref 34), some (.int (nI k)), some (.int (q_b rg))], [.int (M.1 34 15), .ref 34], M)) rfl ?_
  refine q_Wp.cv (c' := (44, [some (.ref 34), some (.int (nI k)), some (.int (q_b rg))], [.int (nI t), .ref 34], M)) (by first | rw [hQ.1] | simp only [hQ.1]) ?_
  refine q_Wp.gn 1 (c' := (48, [some (.ref 34), some (.int (nI k)), some (.int (q_b rg))], [.int (M.1 34 15), .int (nI t), .ref 34], M)) rfl ?_
  refine q_Wp.cv (c' := (48, [some (.ref 34), some (.int (nI k)), some (.int (q_b rg))], [.int (nI t), .int (nI t), .ref 34], M)) (by first | rw [hQ.1] | simp only [hQ.1]) ?_
  refine q_Wp.gn 1 (c' := (50, [some (.ref 34), some (.int (nI k)), some (.int (q_b rg))], [.int ((nI t) + 1), .int (nI t), .ref 34], M)) rfl ?_
  refine q_Wp.cv (c' := (50, [some (.ref 34), some (.int (nI k)), some (.int (q_b rg))], [.int (nI (t + 1)), .int (nI t), .ref 34], M)) (by first | rw [nI_1] | simp only [nI_1]) ?_
  refine q_Wp.gp 2 (mj := 90) (as := [.ref 34, .int (nI t), .int (nI (t + 1)), .int (nI k), .int (q_b rg)]) (pc := 55) (ls := [some (.ref 34), some (.int (nI k)), some (.int (q_b rg))]) (st := []) (M := M) rfl (c_weighs X (d + 4) (a := t) (b := t + 1) (k := k) (by omega) (by omega) (by omega) (by omega) (q_b rg) M) (fun r1 M2 hp3 => ?_)
  obtain ⟨rfl, y1, y2, y3, y4⟩ := hp3
  have hm15 : M2.1 34 15 = nI t := (congrFun (y2 34 (by decide)) 15).trans hQ.1
  show q_Wp X _ 96 (55, [some (.ref 34), some (.int (nI k)), some (.int (q_b rg))], [], M2) _
  refine q_Wp.gn 3 (c' := (63, [some (.ref 34), some (.int (nI k)), some (.int (q_b rg))], [.int (M2.1 34 15), .ref 44], M2)) rfl ?_
  refine q_Wp.cv (c' := (63, [some (.ref 34), some (.int (nI k)), some (.int (q_b rg))], [.int (nI t), .ref 44], M2)) (by first | rw [hm15] | simp only [hm15]) ?_
  refine q_Wp.gn 0 (c' := (64, [some (.ref 34), some (.int (nI k)), some (.int (q_b rg))], [.int (nI k), .int (nI t), .ref 44], M2)) rfl ?_
  refine q_Wp.ist (i := t) rfl (rfl) rfl (by omega) (by decide) ?_
  show q_Wp X _ 96 (65, [some (.ref 34), some (.int (nI k)), some (.int (q_b rg))], [], q_up M2 44 t (nI k)) _
  refine q_Wp.gn 3 (c' := (73, [some (.ref 34), some (.int (nI k)), some (.int (q_b rg))], [.int (M2.1 34 15), .ref 45], q_up M2 44 t (nI k))) rfl ?_
  refine q_Wp.cv (c' := (73, [some (.ref 34), some (.int (nI k)), some (.int (q_b rg))], [.int (nI t), .ref 45], q_up M2 44 t (nI k))) (by first | rw [hm15] | simp only [hm15]) ?_
  refine q_Wp.gn 0 (c' := (74, [some (.ref 34), some (.int (nI k)), some (.int (q_b rg))], [.int (q_b rg), .int (nI t), .ref 45], q_up M2 44 t (nI k))) rfl ?_
  refine q_Wp.zst (i := t) rfl (rfl) rfl (by omega) (by decide) (q_b01 _) ?_
  show q_Wp X _ 96 (75, [some (.ref 34), some (.int (nI k)), some (.int (q_b rg))], [], q_up (q_up M2 44 t (nI k)) 45 t (q_b rg)) _
  refine q_Wp.gn 2 (c' := (80, [some (.ref 34), some (.int (nI k)), some (.int (q_b rg))], [.int (M2.1 34 15), .ref 34], q_up (q_up M2 44 t (nI k)) 45 t (q_b rg))) rfl ?_
  refine q_Wp.cv (c' := (80, [some (.ref 34), some (.int (nI k)), some (.int (q_b rg))], [.int (nI t), .ref 34], q_up (q_up M2 44 t (nI k)) 45 t (q_b rg))) (by first | rw [hm15] | simp only [hm15]) ?_
  refine q_Wp.gn 1 (c' := (82, [some (.ref 34), some (.int (nI k)), some (.int (q_b rg))], [.int ((nI t) + 1), .ref 34], q_up (q_up M2 44 t (nI k)) 45 t (q_b rg))) rfl ?_
  refine q_Wp.cv (c' := (82, [some (.ref 34), some (.int (nI k)), some (.int (q_b rg))], [.int (nI (t + 1)), .ref 34], q_up (q_up M2 44 t (nI k)) 45 t (q_b rg))) (by first | rw [nI_1] | simp only [nI_1]) ?_
  refine q_Wp.gn 4 (c' := (91, [some (.ref 34), some (.int (nI k)), some (.int (q_b rg))], [.int (nI k), .ref 39, .int (nI k), .ref 39], q_up (q_up (q_up M2 44 t (nI k)) 45 t (q_b rg)) 34 15 (nI (t + 1)))) rfl ?_
  refine q_Wp.ild (i := k) rfl (rfl) rfl (by omega) (by decide) ?_
  show q_Wp X _ 96 (92, [some (.ref 34), some (.int (nI k)), some (.int (q_b rg))], [.int (M2.1 39 k), .int (nI k), .ref 39], q_up (q_up (q_up M2 44 t (nI k)) 45 t (q_b rg)) 34 15 (nI (t + 1))) _
  refine q_Wp.gn 1 (c' := (94, [some (.ref 34), some (.int (nI k)), some (.int (q_b rg))], [.int ((M2.1 39 k) + 1), .int (nI k), .ref 39], q_up (q_up (q_up M2 44 t (nI k)) 45 t (q_b rg)) 34 15 (nI (t + 1)))) rfl ?_
  refine q_Wp.ist (i := k) rfl (rfl) rfl (by omega) (by decide) ?_
  show q_Wp X _ 96 (95, [some (.ref 34), some (.int (nI k)), some (.int (q_b rg))], [], q_up (q_up (q_up (q_up M2 44 t (nI k)) 45 t (q_b rg)) 34 15 (nI (t + 1))) 39 k ((M2.1 39 k) + 1)) _
  refine q_Wp.gn 1 (c' := (99, [some (.ref 34), some (.int (nI k)), some (.int (q_b rg))], [.int (nI (t + 1))], q_up (q_up (q_up (q_up M2 44 t (nI k)) 45 t (q_b rg)) 34 15 (nI (t + 1))) 39 k ((M2.1 39 k) + 1))) rfl ?_
  refine q_Wp.rt rfl rfl ?_
  refine ⟨rfl, fun r h1 h2 h3 h4 h5 => ?_, fun j h1 => ?_, rfl, fun i => ?_, fun i => ?_, fun i => ?_, fun j hj => ?_, fun s hs => ?_⟩
  · rw [q_up_ne _ _ _ h2, q_up_ne _ _ _ h1, q_up_ne _ _ _ h4, q_up_ne _ _ _ h3]; exact y2 r h5
  · rw [q_up_ne _ _ _ (by decide), q_up_o _ _ _ h1, q_up_ne _ _ _ (by decide), q_up_ne _ _ _ (by decide), y2 34 (by decide)]
  · by_cases e : i = k
    · subst e; rw [q_up_s, if_pos rfl, y2 39 (by decide)]
    · rw [q_up_o _ _ _ e, if_neg e, q_up_ne _ _ _ (by decide), q_up_ne _ _ _ (by decide), q_up_ne _ _ _ (by decide), y2 39 (by decide)]
  · rw [q_up_ne _ _ _ (by decide), q_up_ne _ _ _ (by decide), q_up_ne _ _ _ (by decide)]
    by_cases e : i = t
    · subst e; rw [q_up_s, if_pos rfl]
    · rw [q_up_o _ _ _ e, if_neg e, y2 44 (by decide)]
  · rw [q_up_ne _ _ _ (by decide), q_up_ne _ _ _ (by decide)]
    by_cases e : i = t
    · subst e; rw [q_up_s, if_pos rfl]
    · rw [q_up_o _ _ _ e, if_neg e, q_up_ne _ _ _ (by decide), y2 45 (by decide)]
  · rw [q_up_ne _ _ _ (by decide), q_up_ne _ _ _ (by decide), q_up_ne _ _ _ (by decide), q_up_ne _ _ _ (by decide)]; exact y3 j (Or.inl hj)
  · rw [q_up_ne _ _ _ (by decide), q_up_ne _ _ _ (by decide), q_up_ne _ _ _ (by decide), q_up_ne _ _ _ (by decide)]; exact y4 s hs

set_option maxRecDepth 10000 in
theorem m_back_off (X : q_X) (d : Nat)  (M : q_M) (hon : M.1 34 13 = 0) : q_Ev X (d + 2) 97 [.ref 34] M (some (.int (-2))) (M) := by
  refine q_Ev.ofW rfl ?_
  show q_Wp X _ 97 (0, [some (.ref 34)], [], M) _
  refine q_Wp.gn 1 (c' := (4, [some (.ref 34)], [.int (M.1 34 13)], M)) rfl ?_
  refine q_Wp.cv (c' := (4, [some (.ref 34)], [.int 0], M)) (by first | rw [hon] | simp only [hon]) ?_
  refine q_Wp.gn 1 (c' := (16, [some (.ref 34)], [.int (-2)], M)) rfl ?_
  exact q_Wp.rt rfl rfl ⟨by rfl, by rfl⟩

set_option maxRecDepth 10000 in
theorem m_back_no (X : q_X) (d : Nat)  (M : q_M) (hon : M.1 34 13 = 1) (hT : M.1 34 15 = 0) : q_Ev X (d + 2) 97 [.ref 34] M (some (.int (-2))) (M) := by
  refine q_Ev.ofW rfl ?_
  show q_Wp X _ 97 (0, [some (.ref 34)], [], M) _
  refine q_Wp.gn 1 (c' := (4, [some (.ref 34)], [.int (M.1 34 13)], M)) rfl ?_
  refine q_Wp.cv (c' := (4, [some (.ref 34)], [.int 1], M)) (by first | rw [hon] | simp only [hon]) ?_
  refine q_Wp.gn 2 (c' := (11, [some (.ref 34)], [.int (M.1 34 15)], M)) rfl ?_
  refine q_Wp.cv (c' := (11, [some (.ref 34)], [.int 0], M)) (by first | rw [hT] | simp only [hT]) ?_
  refine q_Wp.gn 1 (c' := (16, [some (.ref 34)], [.int (-2)], M)) rfl ?_
  exact q_Wp.rt rfl rfl ⟨by rfl, by rfl⟩

set_option maxRecDepth 10000 in
theorem m_back_ok (X : q_X) (d : Nat) {t k : Nat} (ht : t ≤ 5) (hk : k < 10) (M : q_M) (hon : M.1 34 13 = 1) (hT : M.1 34 15 = nI (t + 1)) (hQ : M.1 44 t = nI k) : q_Ev X (d + 2) 97 [.ref 34] M (some (.int (nI t))) (q_up (q_up M 34 15 (nI t)) 39 k (M.1 39 k - 1)) := by
  refine q_Ev.ofW rfl ?_
  show q_Wp X _ 97 (0, [some (.ref 34)], [], M) _
  refine q_Wp.gn 1 (c' := (4, [some (.ref 34)], [.int (M.1 34 13)], M)) rfl ?_
  refine q_Wp.cv (c' := (4, [some (.ref 34)], [.int 1], M)) (by first | rw [hon] | simp only [hon]) ?_
  refine q_Wp.gn 2 (c' := (11, [some (.ref 34)], [.int (M.1 34 15)], M)) rfl ?_
  refine q_Wp.cv (c' := (11, [some (.ref 34)], [.int (nI (t + 1))], M)) (by first | rw [hT] | simp only [hT]) ?_
  refine q_Wp.gd 0 (¬ (nI (t + 1)) = 0) (c1 := (17, [some (.ref 34)], [], M)) (c2 := (14, [some (.ref 34)], [], M)) rfl (fun h1 => ?_) (fun h1 => ?_)
  · -- t
    have h1 : ¬ (t + 1) = 0 := fun z => h1 ((nI_eq (a := (t + 1)) (b := 0) (by omega) (by omega)).mpr z)
    refine q_Wp.gn 2 (c' := (22, [some (.ref 34)], [.int (M.1 34 15), .ref 34], M)) rfl ?_
    refine q_Wp.cv (c' := (22, [some (.ref 34)], [.int (nI (t + 1)), .ref 34], M)) (by first | rw [hT] | simp only [hT]) ?_
    refine q_Wp.gn 1 (c' := (24, [some (.ref 34)], [.int ((nI (t + 1)) - 1), .ref 34], M)) rfl ?_
    refine q_Wp.cv (c' := (24, [some (.ref 34)], [.int (nI t), .ref 34], M)) (by first | rw [nI_pred t] | simp only [nI_pred t]) ?_
    refine q_Wp.gn 6 (c' := (39, [some (.ref 34)], [.int (nI t), .ref 44, .ref 39], q_up M 34 15 (nI t))) rfl ?_
    refine q_Wp.ild (i := t) rfl (rfl) rfl (by omega) (by decide) ?_
    show q_Wp X _ 97 (40, [some (.ref 34)], [.int (M.1 44 t), .ref 39], q_up M 34 15 (nI t)) _
    refine q_Wp.cv (c' := (40, [some (.ref 34)], [.int (nI k), .ref 39], q_up M 34 15 (nI t))) (by first | rw [hQ] | simp only [hQ]) ?_
    refine q_Wp.gn 0 (c' := (41, [some (.ref 34)], [.int (nI k), .ref 39, .int (nI k), .ref 39], q_up M 34 15 (nI t))) rfl ?_
    refine q_Wp.ild (i := k) rfl (rfl) rfl (by omega) (by decide) ?_
    show q_Wp X _ 97 (42, [some (.ref 34)], [.int (M.1 39 k), .int (nI k), .ref 39], q_up M 34 15 (nI t)) _
    refine q_Wp.gn 1 (c' := (44, [some (.ref 34)], [.int ((M.1 39 k) - 1), .int (nI k), .ref 39], q_up M 34 15 (nI t))) rfl ?_
    refine q_Wp.ist (i := k) rfl (rfl) rfl (by omega) (by decide) ?_
    show q_Wp X _ 97 (45, [some (.ref 34)], [], q_up (q_up M 34 15 (nI t)) 39 k ((M.1 39 k) - 1)) _
    refine q_Wp.gn 1 (c' := (49, [some (.ref 34)], [.int (nI t)], q_up (q_up M 34 15 (nI t)) 39 k ((M.1 39 k) - 1))) rfl ?_
    exact q_Wp.rt rfl rfl ⟨by rfl, by rfl⟩
  · -- f
    have h1 : (t + 1) = 0 := (nI_eq (a := (t + 1)) (b := 0) (by omega) (by omega)).mp (Classical.byContradiction h1)
    exact absurd h1 (by omega)

set_option maxRecDepth 10000 in
theorem m_end_off (X : q_X) (d : Nat)  (M : q_M) (hon : M.1 34 13 = 0) : q_Ev X (d + 6) 98 [.ref 34] M (some (.int (-2))) (M) := by
  refine q_Ev.ofW rfl ?_
  show q_Wp X _ 98 (0, [some (.ref 34), none, none], [], M) _
  refine q_Wp.gn 1 (c' := (4, [some (.ref 34), none, none], [.int (M.1 34 13)], M)) rfl ?_
  refine q_Wp.cv (c' := (4, [some (.ref 34), none, none], [.int 0], M)) (by first | rw [hon] | simp only [hon]) ?_
  refine q_Wp.gn 1 (c' := (16, [some (.ref 34), none, none], [.int (-2)], M)) rfl ?_
  exact q_Wp.rt rfl rfl ⟨by rfl, by rfl⟩

set_option maxRecDepth 10000 in
theorem m_end_no (X : q_X) (d : Nat) {n t : Nat} {fa : Nat → Nat → Nat} {sh : Nat → Int32} {od A : Nat → Nat} {ft cn : Nat → Bool} (hO : ok_bank n fa) (hA : ok_ask t od A) (hS : A t < 2 ^ n) (M : q_M) (hB : m_bank n fa sh M) (hon : M.1 34 13 = 1) (hF : ∀ U, U < 2 ^ n → M.1 47 U = q_b (ft U)) (hT : ∀ U, U < 2 ^ n → M.1 48 U = q_b (cn U)) (hQ : m_ask t od M) (hd : (s_done (ft (A t)) (s_sureM (s_row M t) (M.1 34 10) (M.1 34 11)) (s_ct n (s_may n fa cn (A t)))) = 0) : q_Ev X (d + 6) 98 [.ref 34] M (some (.int (-2))) (M) := by
  refine q_Ev.ofW rfl ?_
  show q_Wp X _ 98 (0, [some (.ref 34), none, none], [], M) _
  refine q_Wp.gn 1 (c' := (4, [some (.ref 34), none, none], [.int (M.1 34 13)], M)) rfl ?_
  refine q_Wp.cv (c' := (4, [some (.ref 34), none, none], [.int 1], M)) (by first | rw [hon] | simp only [hon]) ?_
  refine q_Wp.gc 2 (mj := 94) (as := [.ref 34]) (pc := 11) (ls := [some (.ref 34), none, none]) (st := []) (M := M) (r1 := some (.int (s_done (ft (A t)) (s_sureM (s_row M t) (M.1 34 10) (M.1 34 11)) (s_ct n (s_may n fa cn (A t)))))) (M1 := M) rfl (c_doneNow X d (n := n) (t := t) (fa := fa) (sh := sh) (od := od) (A := A) (ft := ft) (cn := cn) hO hA hS M hB hF hT hQ) ?_
  show q_Wp X _ 98 (11, [some (.ref 34), none, none], [.int (s_done (ft (A t)) (s_sureM (s_row M t) (M.1 34 10) (M.1 34 11)) (s_ct n (s_may n fa cn (A t))))], M) _
  refine q_Wp.gd 0 (¬ (s_done (ft (A t)) (s_sureM (s_row M t) (M.1 34 10) (M.1 34 11)) (s_ct n (s_may n fa cn (A t)))) = 0) (c1 := (17, [some (.ref 34), none, none], [], M)) (c2 := (14, [some (.ref 34), none, none], [], M)) rfl (fun z => absurd z (fun y => y hd)) (fun _ => ?_)
  refine q_Wp.gn 0 (c' := (16, [some (.ref 34), none, none], [.int (-2)], M)) rfl ?_
  exact q_Wp.rt rfl rfl ⟨by rfl, by rfl⟩

set_option maxRecDepth 10000 in
theorem m_end_ok (X : q_X) (d : Nat) {n t : Nat} {fa : Nat → Nat → Nat} {sh : Nat → Int32} {od A : Nat → Nat} {ft cn : Nat → Bool} (hO : ok_bank n fa) (hA : ok_ask t od A) (hS : A t < 2 ^ n) (M : q_M) (hB : m_bank n fa sh M) (hon : M.1 34 13 = 1) (hF : ∀ U, U < 2 ^ n → M.1 47 U = q_b (ft U)) (hT : ∀ U, U < 2 ^ n → M.1 48 U = q_b (cn U)) (hQ : m_ask t od M) (hd : ¬ (s_done (ft (A t)) (s_sureM (s_row M t) (M.1 34 10) (M.1 34 11)) (s_ct n (s_may n fa cn (A t)))) = 0) : q_Ev X (d + 6) 98 [.ref 34] M (some (.int (nI (s_bst (s_row M t) 6)))) (q_up (q_up (q_up M 34 13 0) 34 15 0) 34 14 (M.1 34 14 + 1)) := by
  refine q_Ev.ofW rfl ?_
  show q_Wp X _ 98 (0, [some (.ref 34), none, none], [], M) _
  have hn := hO.1
  have ht := hA.1
  have key : ∀ (k : Nat) (i b : Nat), 1 ≤ i → i ≤ 6 → b = s_bst (s_row M t) i → 6 - i < k → q_Wp X (d + 5) 98 (21, [some (.ref 34), some (.int (nI b)), some (.int (nI i))], [], M) (fun r M' => r = some (.int (nI (s_bst (s_row M t) 6))) ∧ M' = q_up (q_up (q_up M 34 13 0) 34 15 0) 34 14 (M.1 34 14 + 1)) := by
    intro k
    induction k with
    | zero => intro i b h1i hi hb hm; exact absurd hm (by omega)
    | succ k ih =>
      intro i b h1i hi hb hm
      have hb6 : b < 6 := by
        obtain ⟨z, rfl⟩ : ∃ z, i = z + 1 := ⟨i - 1, by omega⟩
        have := s_bst_lt (s_row M t) z
        omega
      refine q_Wp.gd 2 (6 ≤ (nI i)) (c1 := (70, [some (.ref 34), some (.int (nI b)), some (.int (nI i))], [], M)) (c2 := (27, [some (.ref 34), some (.int (nI b)), some (.int (nI i))], [], M)) rfl (fun g1 => ?_) (fun g1 => ?_)
      · -- t
        have g1 : 6 ≤ i := (nI_leI (a := 6) (b := i) (by omega) (by omega)).mp g1
        refine q_Wp.gn 12 (c' := (91, [some (.ref 34), some (.int (nI b)), some (.int (nI i))], [.int (nI b)], q_up (q_up (q_up M 34 13 0) 34 15 0) 34 14 ((M.1 34 14) + 1))) rfl ?_
        exact q_Wp.rt rfl rfl ⟨by (have e : i = 6 := by omega); subst e; rw [hb], rfl⟩
      · -- f
        have g1 : ¬ 6 ≤ i := fun z => g1 ((nI_leI (a := 6) (b := i) (by omega) (by omega)).mpr z)
        refine q_Wp.gn 4 (c' := (37, [some (.ref 34), some (.int (nI b)), some (.int (nI i))], [.int (M.1 34 15), .int 6, .ref 46], M)) rfl ?_
        refine q_Wp.cv (c' := (37, [some (.ref 34), some (.int (nI b)), some (.int (nI i))], [.int (nI t), .int 6, .ref 46], M)) (by first | rw [hQ.1] | simp only [hQ.1]) ?_
        refine q_Wp.gn 2 (c' := (40, [some (.ref 34), some (.int (nI b)), some (.int (nI i))], [.int ((6 * (nI t)) + (nI i)), .ref 46], M)) rfl ?_
        refine q_Wp.cv (c' := (40, [some (.ref 34), some (.int (nI b)), some (.int (nI i))], [.int (nI (6 * t + i)), .ref 46], M)) (by first | rw [s_6] | simp only [s_6]) ?_
        refine q_Wp.ild (i := (6 * t + i)) rfl (rfl) rfl (by omega) (by decide) ?_
        show q_Wp X _ 98 (41, [some (.ref 34), some (.int (nI b)), some (.int (nI i))], [.int (M.1 46 (6 * t + i))], M) _
        refine q_Wp.gn 4 (c' := (51, [some (.ref 34), some (.int (nI b)), some (.int (nI i))], [.int (M.1 34 15), .int 6, .ref 46, .int (M.1 46 (6 * t + i))], M)) rfl ?_
        refine q_Wp.cv (c' := (51, [some (.ref 34), some (.int (nI b)), some (.int (nI i))], [.int (nI t), .int 6, .ref 46, .int (M.1 46 (6 * t + i))], M)) (by first | rw [hQ.1] | simp only [hQ.1]) ?_
        refine q_Wp.gn 2 (c' := (54, [some (.ref 34), some (.int (nI b)), some (.int (nI i))], [.int ((6 * (nI t)) + (nI b)), .ref 46, .int (M.1 46 (6 * t + i))], M)) rfl ?_
        refine q_Wp.cv (c' := (54, [some (.ref 34), some (.int (nI b)), some (.int (nI i))], [.int (nI (6 * t + b)), .ref 46, .int (M.1 46 (6 * t + i))], M)) (by first | rw [s_6] | simp only [s_6]) ?_
        refine q_Wp.ild (i := (6 * t + b)) rfl (rfl) rfl (by omega) (by decide) ?_
        show q_Wp X _ 98 (55, [some (.ref 34), some (.int (nI b)), some (.int (nI i))], [.int (M.1 46 (6 * t + b)), .int (M.1 46 (6 * t + i))], M) _
        refine q_Wp.gd 0 ((M.1 46 (6 * t + i)) ≤ (M.1 46 (6 * t + b))) (c1 := (62, [some (.ref 34), some (.int (nI b)), some (.int (nI i))], [], M)) (c2 := (58, [some (.ref 34), some (.int (nI b)), some (.int (nI i))], [], M)) rfl (fun g2 => ?_) (fun g2 => ?_)
        · -- ft
          refine q_Wp.gn 2 (c' := (67, [some (.ref 34), some (.int (nI b)), some (.int ((nI i) + 1))], [], M)) rfl ?_
          refine q_Wp.cv (c' := (67, [some (.ref 34), some (.int (nI b)), some (.int (nI (i + 1)))], [], M)) (by first | rw [nI_1] | simp only [nI_1]) ?_
          refine q_Wp.gn 0 (c' := (21, [some (.ref 34), some (.int (nI b)), some (.int (nI (i + 1)))], [], M)) rfl ?_
          exact ih (i + 1) _ (by omega) (by omega) (by rw [s_bst, ← hb, if_pos (show s_row M t i ≤ s_row M t b from g2)]) (by omega)
        · -- ff
          refine q_Wp.gn 3 (c' := (67, [some (.ref 34), some (.int (nI i)), some (.int ((nI i) + 1))], [], M)) rfl ?_
          refine q_Wp.cv (c' := (67, [some (.ref 34), some (.int (nI i)), some (.int (nI (i + 1)))], [], M)) (by first | rw [nI_1] | simp only [nI_1]) ?_
          refine q_Wp.gn 0 (c' := (21, [some (.ref 34), some (.int (nI i)), some (.int (nI (i + 1)))], [], M)) rfl ?_
          exact ih (i + 1) _ (by omega) (by omega) (by rw [s_bst, ← hb, if_neg (show ¬ s_row M t i ≤ s_row M t b from g2)]) (by omega)
  refine q_Wp.gn 1 (c' := (4, [some (.ref 34), none, none], [.int (M.1 34 13)], M)) rfl ?_
  refine q_Wp.cv (c' := (4, [some (.ref 34), none, none], [.int 1], M)) (by first | rw [hon] | simp only [hon]) ?_
  refine q_Wp.gc 2 (mj := 94) (as := [.ref 34]) (pc := 11) (ls := [some (.ref 34), none, none]) (st := []) (M := M) (r1 := some (.int (s_done (ft (A t)) (s_sureM (s_row M t) (M.1 34 10) (M.1 34 11)) (s_ct n (s_may n fa cn (A t)))))) (M1 := M) rfl (c_doneNow X d (n := n) (t := t) (fa := fa) (sh := sh) (od := od) (A := A) (ft := ft) (cn := cn) hO hA hS M hB hF hT hQ) ?_
  show q_Wp X _ 98 (11, [some (.ref 34), none, none], [.int (s_done (ft (A t)) (s_sureM (s_row M t) (M.1 34 10) (M.1 34 11)) (s_ct n (s_may n fa cn (A t))))], M) _
  refine q_Wp.gd 0 (¬ (s_done (ft (A t)) (s_sureM (s_row M t) (M.1 34 10) (M.1 34 11)) (s_ct n (s_may n fa cn (A t)))) = 0) (c1 := (17, [some (.ref 34), none, none], [], M)) (c2 := (14, [some (.ref 34), none, none], [], M)) rfl (fun _ => ?_) (fun z => absurd hd z)
  refine q_Wp.gn 3 (c' := (21, [some (.ref 34), some (.int 0), some (.int 1)], [], M)) rfl ?_
  exact key 6 1 0 (by omega) (by omega) (s_bst_1 _).symm (by omega)

theorem m_bank.shn {n k : Nat} {fa : Nat → Nat → Nat} {sh : Nat → Int32} {M M' : q_M} {v : Int32} (h : m_bank n fa sh M) (h0 : M'.1 34 0 = M.1 34 0) (hf : ∀ r, 34 < r → r < 41 → r ≠ 39 → M'.1 r = M.1 r) (h39 : ∀ i, M'.1 39 i = if i = k then M.1 39 k + v else M.1 39 i) : m_bank n fa (fun q => if q = k then sh q + v else sh q) M' := by
  refine ⟨h0.trans h.1, fun q hq => ?_⟩
  obtain ⟨a0, a1, a2, a3, a4, a5⟩ := h.2 q hq
  refine ⟨by rw [hf 35 (by decide) (by decide) (by decide)]; exact a0, by rw [hf 36 (by decide) (by decide) (by decide)]; exact a1, by rw [hf 37 (by decide) (by decide) (by decide)]; exact a2, by rw [hf 38 (by decide) (by decide) (by decide)]; exact a3, ?_, fun s hs => by rw [hf 40 (by decide) (by decide) (by decide)]; exact a5 s hs⟩
  rw [h39]
  show _ = if q = k then sh q + v else sh q
  by_cases e : q = k
  · subst e; rw [if_pos rfl, if_pos rfl, a4]
  · rw [if_neg e, if_neg e]; exact a4
theorem s_up39 (M : q_M) (k : Nat) (v : Int32) : ∀ i, (q_up M 39 k (M.1 39 k + v)).1 39 i = if i = k then M.1 39 k + v else M.1 39 i := by
  intro i
  by_cases e : i = k
  · subst e; rw [q_up_s, if_pos rfl]
  · rw [q_up_o _ _ _ e, if_neg e]
set_option maxRecDepth 10000 in
theorem m_quit_off (X : q_X) (d : Nat)  (M : q_M) (hon : M.1 34 13 = 0) : q_Ev X (d + 2) 99 [.ref 34] M (some (.int (-2))) (M) := by
  refine q_Ev.ofW rfl ?_
  show q_Wp X _ 99 (0, [some (.ref 34), none], [], M) _
  refine q_Wp.gn 1 (c' := (4, [some (.ref 34), none], [.int (M.1 34 13)], M)) rfl ?_
  refine q_Wp.cv (c' := (4, [some (.ref 34), none], [.int 0], M)) (by first | rw [hon] | simp only [hon]) ?_
  refine q_Wp.gn 1 (c' := (9, [some (.ref 34), none], [.int (-2)], M)) rfl ?_
  exact q_Wp.rt rfl rfl ⟨by rfl, by rfl⟩

set_option maxRecDepth 10000 in
theorem m_quit_on (X : q_X) (d : Nat) {n t : Nat} {fa : Nat → Nat → Nat} {sh : Nat → Int32} {od A : Nat → Nat} (hA : ok_ask t od A) (M : q_M) (hB : m_bank n fa sh M) (hon : M.1 34 13 = 1) (hQ : m_ask t od M) : q_Ep X (d + 2) 99 [.ref 34] M (fun r M' => r = some (.int (nI t)) ∧ (∀ r, r ≠ 34 → r ≠ 39 → M'.1 r = M.1 r) ∧ (∀ k, k ≠ 13 → k ≠ 15 → M'.1 34 k = M.1 34 k) ∧ m_bank n fa (s_un od t sh) M' ∧ M'.1 34 13 = 0) := by
  refine q_Ep.ofW rfl ?_
  show q_Wp X _ 99 (0, [some (.ref 34), none], [], M) _
  have ht := hA.1
  have key : ∀ (m : Nat) (Mi : q_M) (si : Nat → Int32), m ≤ t → (∀ r, r ≠ 34 → r ≠ 39 → Mi.1 r = M.1 r) → (∀ k, k ≠ 13 → k ≠ 15 → Mi.1 34 k = M.1 34 k) → m_bank n fa si Mi → s_un od m si = s_un od t sh → Mi.1 34 15 = nI m → q_Wp X (d + 1) 99 (15, [some (.ref 34), some (.int (nI t))], [], Mi) (fun r M' => r = some (.int (nI t)) ∧ (∀ r, r ≠ 34 → r ≠ 39 → M'.1 r = M.1 r) ∧ (∀ k, k ≠ 13 → k ≠ 15 → M'.1 34 k = M.1 34 k) ∧ m_bank n fa (s_un od t sh) M' ∧ M'.1 34 13 = 0) := by
    intro m
    induction m with
    | zero =>
      intro Mi si hm hI1 hI2 hBi hU hT0
      refine q_Wp.gn 1 (c' := (19, [some (.ref 34), some (.int (nI t))], [.int (Mi.1 34 15)], Mi)) rfl ?_
      refine q_Wp.cv (c' := (19, [some (.ref 34), some (.int (nI t))], [.int 0], Mi)) (by first | rw [(show Mi.1 34 15 = 0 from hT0)] | simp only [(show Mi.1 34 15 = 0 from hT0)]) ?_
      refine q_Wp.gn 4 (c' := (59, [some (.ref 34), some (.int (nI t))], [.int (nI t)], q_up Mi 34 13 0)) rfl ?_
      refine q_Wp.rt rfl rfl ?_
      exact ⟨rfl, fun r h1 h2 => by rw [q_up_ne _ _ _ h1]; exact hI1 r h1 h2, fun k h1 h2 => by rw [q_up_o _ _ _ h1]; exact hI2 k h1 h2, hU ▸ hBi.keep (q_up_o _ _ _ (by decide)) (fun r h1 h2 => q_up_ne _ _ _ (by omega)), rfl⟩
    | succ m ih =>
      intro Mi si hm hI1 hI2 hBi hU hT0
      have hom : od m < 10 := (hA.2.2 m (by omega)).1
      have hQi : Mi.1 44 m = nI (od m) := by rw [hI1 44 (by decide) (by decide)]; exact hQ.2 m (by omega)
      refine q_Wp.gn 1 (c' := (19, [some (.ref 34), some (.int (nI t))], [.int (Mi.1 34 15)], Mi)) rfl ?_
      refine q_Wp.cv (c' := (19, [some (.ref 34), some (.int (nI t))], [.int (nI (m + 1))], Mi)) (by first | rw [hT0] | simp only [hT0]) ?_
      refine q_Wp.gd 0 ((nI (m + 1)) ≤ 0) (c1 := (53, [some (.ref 34), some (.int (nI t))], [], Mi)) (c2 := (22, [some (.ref 34), some (.int (nI t))], [], Mi)) rfl (fun g1 => ?_) (fun g1 => ?_)
      · -- t
        have g1 : (m + 1) ≤ 0 := (nI_leI (a := (m + 1)) (b := 0) (by omega) (by omega)).mp g1
        exact absurd g1 (by omega)
      · -- f
        have g1 : ¬ (m + 1) ≤ 0 := fun z => g1 ((nI_leI (a := (m + 1)) (b := 0) (by omega) (by omega)).mpr z)
        refine q_Wp.gn 2 (c' := (27, [some (.ref 34), some (.int (nI t))], [.int (Mi.1 34 15), .ref 34], Mi)) rfl ?_
        refine q_Wp.cv (c' := (27, [some (.ref 34), some (.int (nI t))], [.int (nI (m + 1)), .ref 34], Mi)) (by first | rw [hT0] | simp only [hT0]) ?_
        refine q_Wp.gn 1 (c' := (29, [some (.ref 34), some (.int (nI t))], [.int ((nI (m + 1)) - 1), .ref 34], Mi)) rfl ?_
        refine q_Wp.cv (c' := (29, [some (.ref 34), some (.int (nI t))], [.int (nI m), .ref 34], Mi)) (by first | rw [nI_pred m] | simp only [nI_pred m]) ?_
        refine q_Wp.gn 6 (c' := (44, [some (.ref 34), some (.int (nI t))], [.int (nI m), .ref 44, .ref 39], q_up Mi 34 15 (nI m))) rfl ?_
        refine q_Wp.ild (i := m) rfl (rfl) rfl (by omega) (by decide) ?_
        show q_Wp X _ 99 (45, [some (.ref 34), some (.int (nI t))], [.int (Mi.1 44 m), .ref 39], q_up Mi 34 15 (nI m)) _
        refine q_Wp.cv (c' := (45, [some (.ref 34), some (.int (nI t))], [.int (nI (od m)), .ref 39], q_up Mi 34 15 (nI m))) (by first | rw [hQi] | simp only [hQi]) ?_
        refine q_Wp.gn 0 (c' := (46, [some (.ref 34), some (.int (nI t))], [.int (nI (od m)), .ref 39, .int (nI (od m)), .ref 39], q_up Mi 34 15 (nI m))) rfl ?_
        refine q_Wp.ild (i := (od m)) rfl (rfl) rfl (by omega) (by decide) ?_
        show q_Wp X _ 99 (47, [some (.ref 34), some (.int (nI t))], [.int (Mi.1 39 (od m)), .int (nI (od m)), .ref 39], q_up Mi 34 15 (nI m)) _
        refine q_Wp.gn 1 (c' := (49, [some (.ref 34), some (.int (nI t))], [.int ((Mi.1 39 (od m)) - 1), .int (nI (od m)), .ref 39], q_up Mi 34 15 (nI m))) rfl ?_
        refine q_Wp.cv (c' := (49, [some (.ref 34), some (.int (nI t))], [.int (Mi.1 39 (od m) + (-1)), .int (nI (od m)), .ref 39], q_up Mi 34 15 (nI m))) (by first | rw [s_sub1] | simp only [s_sub1]) ?_
        refine q_Wp.ist (i := (od m)) rfl (rfl) rfl (by omega) (by decide) ?_
        show q_Wp X _ 99 (50, [some (.ref 34), some (.int (nI t))], [], q_up (q_up Mi 34 15 (nI m)) 39 (od m) (Mi.1 39 (od m) + (-1))) _
        refine q_Wp.gn 0 (c' := (15, [some (.ref 34), some (.int (nI t))], [], q_up (q_up Mi 34 15 (nI m)) 39 (od m) (Mi.1 39 (od m) + (-1)))) rfl ?_
        refine ih _ _ (by omega) (fun r h1 h2 => ?_) (fun k h1 h2 => ?_) (hBi.shn (k := od m) (v := -1) ?_ (fun r h1 h2 h3 => ?_) ?_) hU ?_
        · rw [q_up_ne _ _ _ h2, q_up_ne _ _ _ h1]; exact hI1 r h1 h2
        · rw [q_up_ne _ _ _ (by decide), q_up_o _ _ _ h2]; exact hI2 k h1 h2
        · rw [q_up_ne _ _ _ (by decide), q_up_o _ _ _ (by decide)]
        · rw [q_up_ne _ _ _ h3, q_up_ne _ _ _ (by omega)]
        · exact s_up39 (q_up Mi 34 15 (nI m)) (od m) (-1)
        · rw [q_up_ne _ _ _ (by decide), q_up_s]
  refine q_Wp.gn 1 (c' := (4, [some (.ref 34), none], [.int (M.1 34 13)], M)) rfl ?_
  refine q_Wp.cv (c' := (4, [some (.ref 34), none], [.int 1], M)) (by first | rw [hon] | simp only [hon]) ?_
  refine q_Wp.gn 2 (c' := (14, [some (.ref 34), none], [.int (M.1 34 15)], M)) rfl ?_
  refine q_Wp.cv (c' := (14, [some (.ref 34), none], [.int (nI t)], M)) (by first | rw [hQ.1] | simp only [hQ.1]) ?_
  refine q_Wp.gn 0 (c' := (15, [some (.ref 34), some (.int (nI t))], [], M)) rfl ?_
  exact key t M sh (Nat.le_refl _) (fun _ _ _ => rfl) (fun _ _ _ => rfl) hB rfl hQ.1

set_option maxRecDepth 10000 in
theorem m_may_off (X : q_X) (d : Nat) {n : Nat} (q : Int32) (M : q_M) (hsz : M.1 34 0 = nI n) (hon : M.1 34 13 = 0) : q_Ev X (d + 4) 100 [.ref 34, .int q] M (some (.int (if s_in q 0 (nI n - 1) = true then -2 else -1))) (M) := by
  refine q_Ev.ofW rfl ?_
  show q_Wp X _ 100 (0, [some (.ref 34), some (.int q)], [], M) _
  refine q_Wp.gc 2 (mj := 68) (as := [.ref 34, .int q]) (pc := 5) (ls := [some (.ref 34), some (.int q)]) (st := []) (M := M) (r1 := some (.int (q_b (s_in q 0 ((M.1 34 0) - 1))))) (M1 := M) rfl (c_isQuestion X (d + 1) q M) ?_
  show q_Wp X _ 100 (5, [some (.ref 34), some (.int q)], [.int (q_b (s_in q 0 ((M.1 34 0) - 1)))], M) _
  refine q_Wp.cv (c' := (5, [some (.ref 34), some (.int q)], [.int (q_b (s_in q 0 ((nI n) - 1)))], M)) (by first | rw [hsz] | simp only [hsz]) ?_
  refine q_Wp.gn0 0 (b := (s_in q 0 ((nI n) - 1))) (c1 := (12, [some (.ref 34), some (.int q)], [], M)) (c2 := (8, [some (.ref 34), some (.int q)], [], M)) rfl (fun h1 => ?_) (fun h1 => ?_)
  · -- t
    refine q_Wp.gn 1 (c' := (16, [some (.ref 34), some (.int q)], [.int (M.1 34 13)], M)) rfl ?_
    refine q_Wp.cv (c' := (16, [some (.ref 34), some (.int q)], [.int 0], M)) (by first | rw [hon] | simp only [hon]) ?_
    refine q_Wp.gn 2 (c' := (41, [some (.ref 34), some (.int q)], [.int (-2)], M)) rfl ?_
    exact q_Wp.rt rfl rfl ⟨by simp [*], by rfl⟩
  · -- f
    refine q_Wp.gn 1 (c' := (41, [some (.ref 34), some (.int q)], [.int (-1)], M)) rfl ?_
    exact q_Wp.rt rfl rfl ⟨by simp [*], by rfl⟩

set_option maxRecDepth 10000 in
theorem m_may_on (X : q_X) (d : Nat) {n t : Nat} {fa : Nat → Nat → Nat} {sh : Nat → Int32} {od A : Nat → Nat} {ft cn : Nat → Bool} (hO : ok_bank n fa) (hA : ok_ask t od A) (hS : A t < 2 ^ n) (q : Int32) (M : q_M) (hB : m_bank n fa sh M) (hon : M.1 34 13 = 1) (hF : ∀ U, U < 2 ^ n → M.1 47 U = q_b (ft U)) (hT : ∀ U, U < 2 ^ n → M.1 48 U = q_b (cn U)) (hQ : m_ask t od M) : q_Ev X (d + 4) 100 [.ref 34, .int q] M (some (.int (if s_in q 0 (nI n - 1) = true then q_b (s_may n fa cn (A t) q.toNatClampNeg) else -1))) (M) := by
  refine q_Ev.ofW rfl ?_
  show q_Wp X _ 100 (0, [some (.ref 34), some (.int q)], [], M) _
  have hn := hO.1
  have ht := hA.1
  refine q_Wp.gc 2 (mj := 68) (as := [.ref 34, .int q]) (pc := 5) (ls := [some (.ref 34), some (.int q)]) (st := []) (M := M) (r1 := some (.int (q_b (s_in q 0 ((M.1 34 0) - 1))))) (M1 := M) rfl (c_isQuestion X (d + 1) q M) ?_
  show q_Wp X _ 100 (5, [some (.ref 34), some (.int q)], [.int (q_b (s_in q 0 ((M.1 34 0) - 1)))], M) _
  refine q_Wp.cv (c' := (5, [some (.ref 34), some (.int q)], [.int (q_b (s_in q 0 ((nI n) - 1)))], M)) (by first | rw [hB.1] | simp only [hB.1]) ?_
  refine q_Wp.gn0 0 (b := (s_in q 0 ((nI n) - 1))) (c1 := (12, [some (.ref 34), some (.int q)], [], M)) (c2 := (8, [some (.ref 34), some (.int q)], [], M)) rfl (fun h1 => ?_) (fun h1 => ?_)
  · -- t
    obtain ⟨k, hk, rfl⟩ := s_has_inv hn ((s_has_in hn q).symm.trans h1)
    have hck : (nI k).toNatClampNeg = k := nI_clamp (by omega)
    refine q_Wp.gn 1 (c' := (16, [some (.ref 34), some (.int (nI k))], [.int (M.1 34 13)], M)) rfl ?_
    refine q_Wp.cv (c' := (16, [some (.ref 34), some (.int (nI k))], [.int 1], M)) (by first | rw [hon] | simp only [hon]) ?_
    refine q_Wp.gc 4 (mj := 82) (as := [.ref 34]) (pc := 30) (ls := [some (.ref 34), some (.int (nI k))]) (st := [.int (nI k), .ref 34]) (M := M) (r1 := some (.int (nI (A t)))) (M1 := M) rfl (c_askedSet X (d + 2) (t := t) (od := od) (A := A) hA M hQ) ?_
    show q_Wp X _ 100 (30, [some (.ref 34), some (.int (nI k))], [.int (nI (A t)), .int (nI k), .ref 34], M) _
    refine q_Wp.gc 0 (mj := 84) (as := [.ref 34, .int (nI k), .int (nI (A t))]) (pc := 33) (ls := [some (.ref 34), some (.int (nI k))]) (st := []) (M := M) (r1 := some (.int (q_b (s_may n fa cn (A t) k)))) (M1 := M) rfl (c_mayBe X d (n := n) (S := (A t)) (q := k) (fa := fa) (sh := sh) (cn := cn) hO hS (by omega) M hB hT) ?_
    show q_Wp X _ 100 (33, [some (.ref 34), some (.int (nI k))], [.int (q_b (s_may n fa cn (A t) k))], M) _
    refine q_Wp.ge0 0 (b := (s_may n fa cn (A t) k)) (c1 := (40, [some (.ref 34), some (.int (nI k))], [], M)) (c2 := (36, [some (.ref 34), some (.int (nI k))], [], M)) rfl (fun h2 => ?_) (fun h2 => ?_)
    · -- tt
      refine q_Wp.gn 0 (c' := (41, [some (.ref 34), some (.int (nI k))], [.int 0], M)) rfl ?_
      exact q_Wp.rt rfl rfl ⟨by simp [q_b, *], by rfl⟩
    · -- tf
      refine q_Wp.gn 1 (c' := (41, [some (.ref 34), some (.int (nI k))], [.int 1], M)) rfl ?_
      exact q_Wp.rt rfl rfl ⟨by simp [q_b, *], by rfl⟩
  · -- f
    refine q_Wp.gn 1 (c' := (41, [some (.ref 34), some (.int q)], [.int (-1)], M)) rfl ?_
    exact q_Wp.rt rfl rfl ⟨by simp [q_b, *], by rfl⟩

set_option maxRecDepth 10000 in
theorem m_gain_off (X : q_X) (d : Nat) {n : Nat} (q p : Int32) (M : q_M) (hsz : M.1 34 0 = nI n) (hon : M.1 34 13 = 0) : q_Ev X (d + 4) 101 [.ref 34, .int q, .int p] M (some (.int (if (s_in q 0 (nI n - 1) && s_in p 0 (nI n - 1)) = true then -3 else -2))) (M) := by
  refine q_Ev.ofW rfl ?_
  show q_Wp X _ 101 (0, [some (.ref 34), some (.int q), some (.int p)], [], M) _
  refine q_Wp.gc 2 (mj := 68) (as := [.ref 34, .int q]) (pc := 5) (ls := [some (.ref 34), some (.int q), some (.int p)]) (st := []) (M := M) (r1 := some (.int (q_b (s_in q 0 ((M.1 34 0) - 1))))) (M1 := M) rfl (c_isQuestion X (d + 1) q M) ?_
  show q_Wp X _ 101 (5, [some (.ref 34), some (.int q), some (.int p)], [.int (q_b (s_in q 0 ((M.1 34 0) - 1)))], M) _
  refine q_Wp.cv (c' := (5, [some (.ref 34), some (.int q), some (.int p)], [.int (q_b (s_in q 0 ((nI n) - 1)))], M)) (by first | rw [hsz] | simp only [hsz]) ?_
  refine q_Wp.ge0 0 (b := (s_in q 0 ((nI n) - 1))) (c1 := (16, [some (.ref 34), some (.int q), some (.int p)], [], M)) (c2 := (8, [some (.ref 34), some (.int q), some (.int p)], [], M)) rfl (fun h1 => ?_) (fun h1 => ?_)
  · -- t
    refine q_Wp.gn 1 (c' := (39, [some (.ref 34), some (.int q), some (.int p)], [.int (-2)], M)) rfl ?_
    exact q_Wp.rt rfl rfl ⟨by simp [*], by rfl⟩
  · -- f
    refine q_Wp.gc 2 (mj := 68) (as := [.ref 34, .int p]) (pc := 13) (ls := [some (.ref 34), some (.int q), some (.int p)]) (st := []) (M := M) (r1 := some (.int (q_b (s_in p 0 ((M.1 34 0) - 1))))) (M1 := M) rfl (c_isQuestion X (d + 1) p M) ?_
    show q_Wp X _ 101 (13, [some (.ref 34), some (.int q), some (.int p)], [.int (q_b (s_in p 0 ((M.1 34 0) - 1)))], M) _
    refine q_Wp.cv (c' := (13, [some (.ref 34), some (.int q), some (.int p)], [.int (q_b (s_in p 0 ((nI n) - 1)))], M)) (by first | rw [hsz] | simp only [hsz]) ?_
    refine q_Wp.gn0 0 (b := (s_in p 0 ((nI n) - 1))) (c1 := (21, [some (.ref 34), some (.int q), some (.int p)], [], M)) (c2 := (16, [some (.ref 34), some (.int q), some (.int p)], [], M)) rfl (fun h2 => ?_) (fun h2 => ?_)
    · -- ft
      refine q_Wp.gn 1 (c' := (25, [some (.ref 34), some (.int q), some (.int p)], [.int (M.1 34 13)], M)) rfl ?_
      refine q_Wp.cv (c' := (25, [some (.ref 34), some (.int q), some (.int p)], [.int 0], M)) (by first | rw [hon] | simp only [hon]) ?_
      refine q_Wp.gn 2 (c' := (39, [some (.ref 34), some (.int q), some (.int p)], [.int (-3)], M)) rfl ?_
      exact q_Wp.rt rfl rfl ⟨by simp [*], by rfl⟩
    · -- ff
      refine q_Wp.gn 1 (c' := (39, [some (.ref 34), some (.int q), some (.int p)], [.int (-2)], M)) rfl ?_
      exact q_Wp.rt rfl rfl ⟨by simp [*], by rfl⟩

set_option maxRecDepth 10000 in
theorem m_gain_on (X : q_X) (d : Nat) {n t : Nat} {T B : Nat → Nat} (hn : n ≤ 10) (ht : t ≤ 6) (hfin : s_fins n T B) (q p : Int32) (M : q_M) (hsz : M.1 34 0 = nI n) (hon : M.1 34 13 = 1) (hTt : M.1 34 15 = nI t) (hG : m_gain n t T B M) : q_Ep X (d + 4) 101 [.ref 34, .int q, .int p] M (fun r M' => r = some (.int (if (s_in q 0 (nI n - 1) && s_in p 0 (nI n - 1)) = true then s_cmp 100 (T q.toNatClampNeg) (B q.toNatClampNeg) (T p.toNatClampNeg) (B p.toNatClampNeg) 1 else -2)) ∧ (∀ r, r ≠ 46 → M'.1 r = M.1 r) ∧ ∀ j, j < 60 → M'.1 46 j = M.1 46 j) := by
  refine q_Ep.ofW rfl ?_
  show q_Wp X _ 101 (0, [some (.ref 34), some (.int q), some (.int p)], [], M) _
  refine q_Wp.gc 2 (mj := 68) (as := [.ref 34, .int q]) (pc := 5) (ls := [some (.ref 34), some (.int q), some (.int p)]) (st := []) (M := M) (r1 := some (.int (q_b (s_in q 0 ((M.1 34 0) - 1))))) (M1 := M) rfl (c_isQuestion X (d + 1) q M) ?_
  show q_Wp X _ 101 (5, [some (.ref 34), some (.int q), some (.int p)], [.int (q_b (s_in q 0 ((M.1 34 0) - 1)))], M) _
  refine q_Wp.cv (c' := (5, [some (.ref 34), some (.int q), some (.int p)], [.int (q_b (s_in q 0 ((nI n) - 1)))], M)) (by first | rw [hsz] | simp only [hsz]) ?_
  refine q_Wp.ge0 0 (b := (s_in q 0 ((nI n) - 1))) (c1 := (16, [some (.ref 34), some (.int q), some (.int p)], [], M)) (c2 := (8, [some (.ref 34), some (.int q), some (.int p)], [], M)) rfl (fun h1 => ?_) (fun h1 => ?_)
  · -- t
    refine q_Wp.gn 1 (c' := (39, [some (.ref 34), some (.int q), some (.int p)], [.int (-2)], M)) rfl ?_
    refine q_Wp.rt rfl rfl ?_
    exact ⟨by simp [*], fun _ _ => rfl, fun _ _ => rfl⟩
  · -- f
    obtain ⟨k, hk, rfl⟩ := s_has_inv hn ((s_has_in hn q).symm.trans h1)
    have hck : (nI k).toNatClampNeg = k := nI_clamp (by omega)
    refine q_Wp.gc 2 (mj := 68) (as := [.ref 34, .int p]) (pc := 13) (ls := [some (.ref 34), some (.int (nI k)), some (.int p)]) (st := []) (M := M) (r1 := some (.int (q_b (s_in p 0 ((M.1 34 0) - 1))))) (M1 := M) rfl (c_isQuestion X (d + 1) p M) ?_
    show q_Wp X _ 101 (13, [some (.ref 34), some (.int (nI k)), some (.int p)], [.int (q_b (s_in p 0 ((M.1 34 0) - 1)))], M) _
    refine q_Wp.cv (c' := (13, [some (.ref 34), some (.int (nI k)), some (.int p)], [.int (q_b (s_in p 0 ((nI n) - 1)))], M)) (by first | rw [hsz] | simp only [hsz]) ?_
    refine q_Wp.gn0 0 (b := (s_in p 0 ((nI n) - 1))) (c1 := (21, [some (.ref 34), some (.int (nI k)), some (.int p)], [], M)) (c2 := (16, [some (.ref 34), some (.int (nI k)), some (.int p)], [], M)) rfl (fun h2 => ?_) (fun h2 => ?_)
    · -- ft
      obtain ⟨j, hj, rfl⟩ := s_has_inv hn ((s_has_in hn p).symm.trans h2)
      have hcj : (nI j).toNatClampNeg = j := nI_clamp (by omega)
      refine q_Wp.gn 1 (c' := (25, [some (.ref 34), some (.int (nI k)), some (.int (nI j))], [.int (M.1 34 13)], M)) rfl ?_
      refine q_Wp.cv (c' := (25, [some (.ref 34), some (.int (nI k)), some (.int (nI j))], [.int 1], M)) (by first | rw [hon] | simp only [hon]) ?_
      refine q_Wp.gp 4 (mj := 93) (as := [.ref 34, .int (nI k), .int (nI j)]) (pc := 39) (ls := [some (.ref 34), some (.int (nI k)), some (.int (nI j))]) (st := []) (M := M) rfl (c_besideGain X d (k := k) (k2 := j) (t := t) (z := 100) ht (hG _ hk).2.1 (hG _ hk).2.2.2.1 (hG _ hj).2.1 (hG _ hj).2.2.2.1 (hG _ hk).2.2.2.2 (hG _ hj).2.2.2.2 (hfin _ _ hk hj) (by omega) (by omega) M hTt (hG _ hk).1 (hG _ hk).2.2.1 (hG _ hj).1 (hG _ hj).2.2.1) (fun r3 M4 hp5 => ?_)
      obtain ⟨rfl, y1, y2⟩ := hp5
      show q_Wp X _ 101 (39, [some (.ref 34), some (.int (nI k)), some (.int (nI j))], [.int (s_cmp 100 (T k) (B k) (T j) (B j) 1)], M4) _
      refine q_Wp.rt rfl rfl ?_
      exact ⟨by simp [*], y1, y2⟩
    · -- ff
      refine q_Wp.gn 1 (c' := (39, [some (.ref 34), some (.int (nI k)), some (.int p)], [.int (-2)], M)) rfl ?_
      refine q_Wp.rt rfl rfl ?_
      exact ⟨by simp [*], fun _ _ => rfl, fun _ _ => rfl⟩

set_option maxRecDepth 10000 in
theorem m_asked_off (X : q_X) (d : Nat) (i x : Int32) (M : q_M) (hon : M.1 34 13 = 0) : q_Ev X (d + 2) 104 [.ref 34, .int i, .int x] M (some (.int (if (!decide (i < 0) && s_in x 0 1) = true then -2 else -1))) (M) := by
  refine q_Ev.ofW rfl ?_
  show q_Wp X _ 104 (0, [some (.ref 34), some (.int i), some (.int x)], [], M) _
  refine q_Wp.gd 1 (i < 0) (c1 := (28, [some (.ref 34), some (.int i), some (.int x)], [], M)) (c2 := (4, [some (.ref 34), some (.int i), some (.int x)], [], M)) rfl (fun h1 => ?_) (fun h1 => ?_)
  · -- t
    refine q_Wp.gn 0 (c' := (29, [some (.ref 34), some (.int i), some (.int x)], [.int (-1)], M)) rfl ?_
    exact q_Wp.rt rfl rfl ⟨by simp [*], by rfl⟩
  · -- f
    refine q_Wp.gc 3 (mj := 67) (as := [.int x, .int 0, .int 1]) (pc := 10) (ls := [some (.ref 34), some (.int i), some (.int x)]) (st := []) (M := M) (r1 := some (.int (q_b (s_in x 0 1)))) (M1 := M) rfl (c_in X d x 0 1 M) ?_
    show q_Wp X _ 104 (10, [some (.ref 34), some (.int i), some (.int x)], [.int (q_b (s_in x 0 1))], M) _
    refine q_Wp.ge0 0 (b := (s_in x 0 1)) (c1 := (28, [some (.ref 34), some (.int i), some (.int x)], [], M)) (c2 := (13, [some (.ref 34), some (.int i), some (.int x)], [], M)) rfl (fun h2 => ?_) (fun h2 => ?_)
    · -- ft
      refine q_Wp.gn 0 (c' := (29, [some (.ref 34), some (.int i), some (.int x)], [.int (-1)], M)) rfl ?_
      exact q_Wp.rt rfl rfl ⟨by simp [*], by rfl⟩
    · -- ff
      refine q_Wp.gn 1 (c' := (17, [some (.ref 34), some (.int i), some (.int x)], [.int (M.1 34 13)], M)) rfl ?_
      refine q_Wp.cv (c' := (17, [some (.ref 34), some (.int i), some (.int x)], [.int 0], M)) (by first | rw [hon] | simp only [hon]) ?_
      refine q_Wp.gn 2 (c' := (34, [some (.ref 34), some (.int i), some (.int x)], [.int (M.1 34 13)], M)) rfl ?_
      refine q_Wp.cv (c' := (34, [some (.ref 34), some (.int i), some (.int x)], [.int 0], M)) (by first | rw [hon] | simp only [hon]) ?_
      refine q_Wp.gn 2 (c' := (69, [some (.ref 34), some (.int i), some (.int x)], [.int (-2)], M)) rfl ?_
      exact q_Wp.rt rfl rfl ⟨by simp [*], by rfl⟩

set_option maxRecDepth 10000 in
theorem m_asked_on (X : q_X) (d : Nat) {t : Nat} {od : Nat → Nat} {rg : Nat → Bool} (ht : t ≤ 6) (i x : Int32) (M : q_M) (hon : M.1 34 13 = 1) (hQ : m_ask t od M) (hR : ∀ i, i < t → M.1 45 i = q_b (rg i)) : q_Ev X (d + 2) 104 [.ref 34, .int i, .int x] M (some (.int (if (!decide (i < 0) && s_in x 0 1 && !decide (nI t ≤ i)) = true then (if x = 0 then nI (od i.toNatClampNeg) else q_b (rg i.toNatClampNeg)) else -1))) (M) := by
  refine q_Ev.ofW rfl ?_
  show q_Wp X _ 104 (0, [some (.ref 34), some (.int i), some (.int x)], [], M) _
  refine q_Wp.gd 1 (i < 0) (c1 := (28, [some (.ref 34), some (.int i), some (.int x)], [], M)) (c2 := (4, [some (.ref 34), some (.int i), some (.int x)], [], M)) rfl (fun h1 => ?_) (fun h1 => ?_)
  · -- t
    refine q_Wp.gn 0 (c' := (29, [some (.ref 34), some (.int i), some (.int x)], [.int (-1)], M)) rfl ?_
    exact q_Wp.rt rfl rfl ⟨by simp_all [q_b, Int32.not_lt, Int32.not_le], by rfl⟩
  · -- f
    obtain ⟨k, hk, rfl⟩ := nI_of h1
    have hck : (nI k).toNatClampNeg = k := nI_clamp hk
    refine q_Wp.gc 3 (mj := 67) (as := [.int x, .int 0, .int 1]) (pc := 10) (ls := [some (.ref 34), some (.int (nI k)), some (.int x)]) (st := []) (M := M) (r1 := some (.int (q_b (s_in x 0 1)))) (M1 := M) rfl (c_in X d x 0 1 M) ?_
    show q_Wp X _ 104 (10, [some (.ref 34), some (.int (nI k)), some (.int x)], [.int (q_b (s_in x 0 1))], M) _
    refine q_Wp.ge0 0 (b := (s_in x 0 1)) (c1 := (28, [some (.ref 34), some (.int (nI k)), some (.int x)], [], M)) (c2 := (13, [some (.ref 34), some (.int (nI k)), some (.int x)], [], M)) rfl (fun h2 => ?_) (fun h2 => ?_)
    · -- ft
      refine q_Wp.gn 0 (c' := (29, [some (.ref 34), some (.int (nI k)), some (.int x)], [.int (-1)], M)) rfl ?_
      exact q_Wp.rt rfl rfl ⟨by simp_all [q_b, Int32.not_lt, Int32.not_le], by rfl⟩
    · -- ff
      refine q_Wp.gn 1 (c' := (17, [some (.ref 34), some (.int (nI k)), some (.int x)], [.int (M.1 34 13)], M)) rfl ?_
      refine q_Wp.cv (c' := (17, [some (.ref 34), some (.int (nI k)), some (.int x)], [.int 1], M)) (by first | rw [hon] | simp only [hon]) ?_
      refine q_Wp.gn 3 (c' := (25, [some (.ref 34), some (.int (nI k)), some (.int x)], [.int (M.1 34 15), .int (nI k)], M)) rfl ?_
      refine q_Wp.cv (c' := (25, [some (.ref 34), some (.int (nI k)), some (.int x)], [.int (nI t), .int (nI k)], M)) (by first | rw [hQ.1] | simp only [hQ.1]) ?_
      refine q_Wp.gd 0 ((nI k) < (nI t)) (c1 := (30, [some (.ref 34), some (.int (nI k)), some (.int x)], [], M)) (c2 := (28, [some (.ref 34), some (.int (nI k)), some (.int x)], [], M)) rfl (fun h3 => ?_) (fun h3 => ?_)
      · -- fft
        have h3 : k < t := (nI_ltI (a := k) (b := t) (by omega) (by omega)).mp h3
        refine q_Wp.gn 1 (c' := (34, [some (.ref 34), some (.int (nI k)), some (.int x)], [.int (M.1 34 13)], M)) rfl ?_
        refine q_Wp.cv (c' := (34, [some (.ref 34), some (.int (nI k)), some (.int x)], [.int 1], M)) (by first | rw [hon] | simp only [hon]) ?_
        refine q_Wp.gd 2 (¬ x = 0) (c1 := (55, [some (.ref 34), some (.int (nI k)), some (.int x)], [], M)) (c2 := (46, [some (.ref 34), some (.int (nI k)), some (.int x)], [], M)) rfl (fun h4 => ?_) (fun h4 => ?_)
        · -- fftt
          skip
          refine q_Wp.gn 2 (c' := (60, [some (.ref 34), some (.int (nI k)), some (.int x)], [.int (nI k), .ref 45], M)) rfl ?_
          refine q_Wp.zld (i := k) rfl (rfl) rfl (by omega) (by decide) ?_
          show q_Wp X _ 104 (61, [some (.ref 34), some (.int (nI k)), some (.int x)], [.int (M.1 45 k)], M) _
          refine q_Wp.cv (c' := (61, [some (.ref 34), some (.int (nI k)), some (.int x)], [.int (q_b (rg k))], M)) (by first | rw [hR k (by omega)] | simp only [hR k (by omega)]) ?_
          refine q_Wp.ge0 0 (b := (rg k)) (c1 := (68, [some (.ref 34), some (.int (nI k)), some (.int x)], [], M)) (c2 := (64, [some (.ref 34), some (.int (nI k)), some (.int x)], [], M)) rfl (fun h5 => ?_) (fun h5 => ?_)
          · -- ffttt
            refine q_Wp.gn 0 (c' := (69, [some (.ref 34), some (.int (nI k)), some (.int x)], [.int 0], M)) rfl ?_
            exact q_Wp.rt rfl rfl ⟨by simp_all [q_b, Int32.not_lt, Int32.not_le], by rfl⟩
          · -- ffttf
            refine q_Wp.gn 1 (c' := (69, [some (.ref 34), some (.int (nI k)), some (.int x)], [.int 1], M)) rfl ?_
            exact q_Wp.rt rfl rfl ⟨by simp_all [q_b, Int32.not_lt, Int32.not_le], by rfl⟩
        · -- fftf
          have h4 : x = 0 := Classical.byContradiction h4
          refine q_Wp.gn 2 (c' := (51, [some (.ref 34), some (.int (nI k)), some (.int x)], [.int (nI k), .ref 44], M)) rfl ?_
          refine q_Wp.ild (i := k) rfl (rfl) rfl (by omega) (by decide) ?_
          show q_Wp X _ 104 (52, [some (.ref 34), some (.int (nI k)), some (.int x)], [.int (M.1 44 k)], M) _
          refine q_Wp.cv (c' := (52, [some (.ref 34), some (.int (nI k)), some (.int x)], [.int (nI (od k))], M)) (by first | rw [hQ.2 k (by omega)] | simp only [hQ.2 k (by omega)]) ?_
          refine q_Wp.gn 0 (c' := (69, [some (.ref 34), some (.int (nI k)), some (.int x)], [.int (nI (od k))], M)) rfl ?_
          exact q_Wp.rt rfl rfl ⟨by simp_all [q_b, Int32.not_lt, Int32.not_le], by rfl⟩
      · -- fff
        have h3 : ¬ k < t := fun z => h3 ((nI_ltI (a := k) (b := t) (by omega) (by omega)).mpr z)
        refine q_Wp.gn 0 (c' := (29, [some (.ref 34), some (.int (nI k)), some (.int x)], [.int (-1)], M)) rfl ?_
        exact q_Wp.rt rfl rfl ⟨by simp_all [q_b, Int32.not_lt, Int32.not_le], by rfl⟩

set_option maxRecDepth 10000 in
theorem m_reach_off (X : q_X) (d : Nat) (x : Int32) (M : q_M) (hon : M.1 34 13 = 0) : q_Ev X (d + 7) 108 [.ref 34, .int x] M (some (.int (if s_in x 0 3 = true then -2 else -1))) (M) := by
  refine q_Ev.ofW rfl ?_
  show q_Wp X _ 108 (0, [some (.ref 34), some (.int x), none, none], [], M) _
  refine q_Wp.gc 3 (mj := 67) (as := [.int x, .int 0, .int 3]) (pc := 6) (ls := [some (.ref 34), some (.int x), none, none]) (st := []) (M := M) (r1 := some (.int (q_b (s_in x 0 3)))) (M1 := M) rfl (c_in X (d + 5) x 0 3 M) ?_
  show q_Wp X _ 108 (6, [some (.ref 34), some (.int x), none, none], [.int (q_b (s_in x 0 3))], M) _
  refine q_Wp.gn0 0 (b := (s_in x 0 3)) (c1 := (11, [some (.ref 34), some (.int x), none, none], [], M)) (c2 := (9, [some (.ref 34), some (.int x), none, none], [], M)) rfl (fun h1 => ?_) (fun h1 => ?_)
  · -- t
    refine q_Wp.gn 1 (c' := (15, [some (.ref 34), some (.int x), none, none], [.int (M.1 34 13)], M)) rfl ?_
    refine q_Wp.cv (c' := (15, [some (.ref 34), some (.int x), none, none], [.int 0], M)) (by first | rw [hon] | simp only [hon]) ?_
    refine q_Wp.gn 1 (c' := (20, [some (.ref 34), some (.int x), none, none], [.int (-2)], M)) rfl ?_
    exact q_Wp.rt rfl rfl ⟨by simp [*], by rfl⟩
  · -- f
    refine q_Wp.gn 0 (c' := (10, [some (.ref 34), some (.int x), none, none], [.int (-1)], M)) rfl ?_
    exact q_Wp.rt rfl rfl ⟨by simp [*], by rfl⟩

set_option maxRecDepth 10000 in
theorem m_reach_no (X : q_X) (d : Nat) (x : Int32) (M : q_M) (hno : s_in x 0 3 = false) : q_Ev X (d + 7) 108 [.ref 34, .int x] M (some (.int (-1))) (M) := by
  refine q_Ev.ofW rfl ?_
  show q_Wp X _ 108 (0, [some (.ref 34), some (.int x), none, none], [], M) _
  refine q_Wp.gc 3 (mj := 67) (as := [.int x, .int 0, .int 3]) (pc := 6) (ls := [some (.ref 34), some (.int x), none, none]) (st := []) (M := M) (r1 := some (.int (q_b (s_in x 0 3)))) (M1 := M) rfl (c_in X (d + 5) x 0 3 M) ?_
  show q_Wp X _ 108 (6, [some (.ref 34), some (.int x), none, none], [.int (q_b (s_in x 0 3))], M) _
  refine q_Wp.gn0 0 (b := (s_in x 0 3)) (c1 := (11, [some (.ref 34), some (.int x), none, none], [], M)) (c2 := (9, [some (.ref 34), some (.int x), none, none], [], M)) rfl (fun z => absurd (hno.symm.trans z) (by decide)) (fun _ => ?_)
  refine q_Wp.gn 0 (c' := (10, [some (.ref 34), some (.int x), none, none], [.int (-1)], M)) rfl ?_
  exact q_Wp.rt rfl rfl ⟨by rfl, by rfl⟩

set_option maxRecDepth 10000 in
theorem m_reach_0 (X : q_X) (d : Nat) {n t : Nat} {fa : Nat → Nat → Nat} {sh : Nat → Int32} {od A : Nat → Nat} {u : Nat → Nat} {a b : Int32} {ft cn : Nat → Bool} (hO : ok_bank n fa) (hA : ok_ask t od A) (hS : A t < 2 ^ n) (M : q_M) (hB : m_bank n fa sh M) (hon : M.1 34 13 = 1) (hF : ∀ U, U < 2 ^ n → M.1 47 U = q_b (ft U)) (hT : ∀ U, U < 2 ^ n → M.1 48 U = q_b (cn U)) (hQ : m_ask t od M) (hU : ∀ s, s < 6 → M.1 46 (6 * t + s) = nI (u s)) (h10 : M.1 34 10 = a) (h11 : M.1 34 11 = b) : q_Ep X (d + 7) 108 [.ref 34, .int 0] M (fun r M' => r = some (.int (q_b (s_mr n fa cn a b 0 (A t) u))) ∧ (∀ r, r ≠ 46 → M'.1 r = M.1 r) ∧ ∀ j, j < 6 * t + 6 → M'.1 46 j = M.1 46 j) := by
  refine q_Ep.ofW rfl ?_
  show q_Wp X _ 108 (0, [some (.ref 34), some (.int 0), none, none], [], M) _
  have hn := hO.1
  have ht := hA.1
  refine q_Wp.gc 3 (mj := 67) (as := [.int 0, .int 0, .int 3]) (pc := 6) (ls := [some (.ref 34), some (.int 0), none, none]) (st := []) (M := M) (r1 := some (.int (q_b (s_in 0 0 3)))) (M1 := M) rfl (c_in X (d + 5) 0 0 3 M) ?_
  show q_Wp X _ 108 (6, [some (.ref 34), some (.int 0), none, none], [.int (q_b (s_in 0 0 3))], M) _
  refine q_Wp.gn0 0 (b := (s_in 0 0 3)) (c1 := (11, [some (.ref 34), some (.int 0), none, none], [], M)) (c2 := (9, [some (.ref 34), some (.int 0), none, none], [], M)) rfl (fun _ => ?_) (fun z => absurd ((show s_in 0 0 3 = true by decide).symm.trans z) (by decide))
  refine q_Wp.gn 1 (c' := (15, [some (.ref 34), some (.int 0), none, none], [.int (M.1 34 13)], M)) rfl ?_
  refine q_Wp.cv (c' := (15, [some (.ref 34), some (.int 0), none, none], [.int 1], M)) (by first | rw [hon] | simp only [hon]) ?_
  refine q_Wp.gc 2 (mj := 82) (as := [.ref 34]) (pc := 25) (ls := [some (.ref 34), some (.int 0), none, none]) (st := []) (M := M) (r1 := some (.int (nI (A t)))) (M1 := M) rfl (c_askedSet X (d + 5) (t := t) (od := od) (A := A) hA M hQ) ?_
  show q_Wp X _ 108 (25, [some (.ref 34), some (.int 0), none, none], [.int (nI (A t))], M) _
  refine q_Wp.gn 5 (c' := (35, [some (.ref 34), some (.int 0), some (.int (nI (A t))), none], [.int (M.1 34 15), .ref 34], M)) rfl ?_
  refine q_Wp.cv (c' := (35, [some (.ref 34), some (.int 0), some (.int (nI (A t))), none], [.int (nI t), .ref 34], M)) (by first | rw [hQ.1] | simp only [hQ.1]) ?_
  refine q_Wp.gc 0 (mj := 89) (as := [.ref 34, .int (nI t)]) (pc := 38) (ls := [some (.ref 34), some (.int 0), some (.int (nI (A t))), none]) (st := []) (M := M) (r1 := some (.int (q_b (s_sureM (s_row M t) (M.1 34 10) (M.1 34 11))))) (M1 := M) rfl (c_isSure X (d + 4) (r := t) (by omega) M) ?_
  show q_Wp X _ 108 (38, [some (.ref 34), some (.int 0), some (.int (nI (A t))), none], [.int (q_b (s_sureM (s_row M t) (M.1 34 10) (M.1 34 11)))], M) _
  refine q_Wp.ge0 3 (b := (s_sureM (s_row M t) (M.1 34 10) (M.1 34 11))) (c1 := (93, [some (.ref 34), some (.int 0), some (.int (nI (A t))), some (.int (q_b (s_sureM (s_row M t) (M.1 34 10) (M.1 34 11))))], [], M)) (c2 := (89, [some (.ref 34), some (.int 0), some (.int (nI (A t))), some (.int (q_b (s_sureM (s_row M t) (M.1 34 10) (M.1 34 11))))], [], M)) rfl (fun h1 => ?_) (fun h1 => ?_)
  · -- t
    refine q_Wp.gn 0 (c' := (94, [some (.ref 34), some (.int 0), some (.int (nI (A t))), some (.int (q_b (s_sureM (s_row M t) (M.1 34 10) (M.1 34 11))))], [.int 0], M)) rfl ?_
    refine q_Wp.rt rfl rfl ?_
    exact ⟨by rw [show s_mr n fa cn a b 0 (A t) u = s_sureM (s_row M t) (M.1 34 10) (M.1 34 11) by rw [h10, h11]; exact (s_sureM_c hU).symm, h1]; rfl, fun _ _ => rfl, fun _ _ => rfl⟩
  · -- f
    refine q_Wp.gn 1 (c' := (94, [some (.ref 34), some (.int 0), some (.int (nI (A t))), some (.int (q_b (s_sureM (s_row M t) (M.1 34 10) (M.1 34 11))))], [.int 1], M)) rfl ?_
    refine q_Wp.rt rfl rfl ?_
    exact ⟨by rw [show s_mr n fa cn a b 0 (A t) u = s_sureM (s_row M t) (M.1 34 10) (M.1 34 11) by rw [h10, h11]; exact (s_sureM_c hU).symm, h1]; rfl, fun _ _ => rfl, fun _ _ => rfl⟩

set_option maxRecDepth 10000 in
theorem m_reach_1 (X : q_X) (d : Nat) {n t : Nat} {fa : Nat → Nat → Nat} {sh : Nat → Int32} {od A : Nat → Nat} {u : Nat → Nat} {a b : Int32} {ft cn : Nat → Bool} (hO : ok_bank n fa) (hA : ok_ask t od A) (hS : A t < 2 ^ n) (M : q_M) (hB : m_bank n fa sh M) (hon : M.1 34 13 = 1) (hF : ∀ U, U < 2 ^ n → M.1 47 U = q_b (ft U)) (hT : ∀ U, U < 2 ^ n → M.1 48 U = q_b (cn U)) (hQ : m_ask t od M) (hU : ∀ s, s < 6 → M.1 46 (6 * t + s) = nI (u s)) (h10 : M.1 34 10 = a) (h11 : M.1 34 11 = b) : q_Ep X (d + 7) 108 [.ref 34, .int 1] M (fun r M' => r = some (.int (q_b (s_mr n fa cn a b 1 (A t) u))) ∧ (∀ r, r ≠ 46 → M'.1 r = M.1 r) ∧ ∀ j, j < 6 * t + 6 → M'.1 46 j = M.1 46 j) := by
  refine q_Ep.ofW rfl ?_
  show q_Wp X _ 108 (0, [some (.ref 34), some (.int 1), none, none], [], M) _
  have hn := hO.1
  have ht := hA.1
  refine q_Wp.gc 3 (mj := 67) (as := [.int 1, .int 0, .int 3]) (pc := 6) (ls := [some (.ref 34), some (.int 1), none, none]) (st := []) (M := M) (r1 := some (.int (q_b (s_in 1 0 3)))) (M1 := M) rfl (c_in X (d + 5) 1 0 3 M) ?_
  show q_Wp X _ 108 (6, [some (.ref 34), some (.int 1), none, none], [.int (q_b (s_in 1 0 3))], M) _
  refine q_Wp.gn0 0 (b := (s_in 1 0 3)) (c1 := (11, [some (.ref 34), some (.int 1), none, none], [], M)) (c2 := (9, [some (.ref 34), some (.int 1), none, none], [], M)) rfl (fun _ => ?_) (fun z => absurd ((show s_in 1 0 3 = true by decide).symm.trans z) (by decide))
  refine q_Wp.gn 1 (c' := (15, [some (.ref 34), some (.int 1), none, none], [.int (M.1 34 13)], M)) rfl ?_
  refine q_Wp.cv (c' := (15, [some (.ref 34), some (.int 1), none, none], [.int 1], M)) (by first | rw [hon] | simp only [hon]) ?_
  refine q_Wp.gc 2 (mj := 82) (as := [.ref 34]) (pc := 25) (ls := [some (.ref 34), some (.int 1), none, none]) (st := []) (M := M) (r1 := some (.int (nI (A t)))) (M1 := M) rfl (c_askedSet X (d + 5) (t := t) (od := od) (A := A) hA M hQ) ?_
  show q_Wp X _ 108 (25, [some (.ref 34), some (.int 1), none, none], [.int (nI (A t))], M) _
  refine q_Wp.gn 9 (c' := (52, [some (.ref 34), some (.int 1), some (.int (nI (A t))), none], [.int (M.1 34 15), .int (nI (A t)), .ref 34], M)) rfl ?_
  refine q_Wp.cv (c' := (52, [some (.ref 34), some (.int 1), some (.int (nI (A t))), none], [.int (nI t), .int (nI (A t)), .ref 34], M)) (by first | rw [hQ.1] | simp only [hQ.1]) ?_
  refine q_Wp.gp 0 (mj := 105) (as := [.ref 34, .int (nI (A t)), .int (nI t)]) (pc := 55) (ls := [some (.ref 34), some (.int 1), some (.int (nI (A t))), none]) (st := []) (M := M) rfl (c_reachesOne X (d + 2) (n := n) (S := A t) (row := t) (u := u) (fa := fa) (sh := sh) (cn := cn) (a := a) (b := b) hO hS (by omega) M hB hT hU h10 h11) (fun r1 M2 hp3 => ?_)
  obtain ⟨rfl, y0, y1, y2⟩ := hp3
  show q_Wp X _ 108 (55, [some (.ref 34), some (.int 1), some (.int (nI (A t))), none], [.int (q_b (s_mr n fa cn a b 1 (A t) u))], M2) _
  refine q_Wp.ge0 3 (b := (s_mr n fa cn a b 1 (A t) u)) (c1 := (93, [some (.ref 34), some (.int 1), some (.int (nI (A t))), some (.int (q_b (s_mr n fa cn a b 1 (A t) u)))], [], M2)) (c2 := (89, [some (.ref 34), some (.int 1), some (.int (nI (A t))), some (.int (q_b (s_mr n fa cn a b 1 (A t) u)))], [], M2)) rfl (fun h4 => ?_) (fun h4 => ?_)
  · -- t
    refine q_Wp.gn 0 (c' := (94, [some (.ref 34), some (.int 1), some (.int (nI (A t))), some (.int (q_b (s_mr n fa cn a b 1 (A t) u)))], [.int 0], M2)) rfl ?_
    refine q_Wp.rt rfl rfl ?_
    exact ⟨by rw [h4]; rfl, y1, y2⟩
  · -- f
    refine q_Wp.gn 1 (c' := (94, [some (.ref 34), some (.int 1), some (.int (nI (A t))), some (.int (q_b (s_mr n fa cn a b 1 (A t) u)))], [.int 1], M2)) rfl ?_
    refine q_Wp.rt rfl rfl ?_
    exact ⟨by rw [h4]; rfl, y1, y2⟩

set_option maxRecDepth 10000 in
theorem m_reach_2 (X : q_X) (d : Nat) {n t : Nat} {fa : Nat → Nat → Nat} {sh : Nat → Int32} {od A : Nat → Nat} {u : Nat → Nat} {a b : Int32} {ft cn : Nat → Bool} (hO : ok_bank n fa) (hA : ok_ask t od A) (hS : A t < 2 ^ n) (M : q_M) (hB : m_bank n fa sh M) (hon : M.1 34 13 = 1) (hF : ∀ U, U < 2 ^ n → M.1 47 U = q_b (ft U)) (hT : ∀ U, U < 2 ^ n → M.1 48 U = q_b (cn U)) (hQ : m_ask t od M) (hU : ∀ s, s < 6 → M.1 46 (6 * t + s) = nI (u s)) (h10 : M.1 34 10 = a) (h11 : M.1 34 11 = b) : q_Ep X (d + 7) 108 [.ref 34, .int 2] M (fun r M' => r = some (.int (q_b (s_mr n fa cn a b 2 (A t) u))) ∧ (∀ r, r ≠ 46 → M'.1 r = M.1 r) ∧ ∀ j, j < 6 * t + 6 → M'.1 46 j = M.1 46 j) := by
  refine q_Ep.ofW rfl ?_
  show q_Wp X _ 108 (0, [some (.ref 34), some (.int 2), none, none], [], M) _
  have hn := hO.1
  have ht := hA.1
  refine q_Wp.gc 3 (mj := 67) (as := [.int 2, .int 0, .int 3]) (pc := 6) (ls := [some (.ref 34), some (.int 2), none, none]) (st := []) (M := M) (r1 := some (.int (q_b (s_in 2 0 3)))) (M1 := M) rfl (c_in X (d + 5) 2 0 3 M) ?_
  show q_Wp X _ 108 (6, [some (.ref 34), some (.int 2), none, none], [.int (q_b (s_in 2 0 3))], M) _
  refine q_Wp.gn0 0 (b := (s_in 2 0 3)) (c1 := (11, [some (.ref 34), some (.int 2), none, none], [], M)) (c2 := (9, [some (.ref 34), some (.int 2), none, none], [], M)) rfl (fun _ => ?_) (fun z => absurd ((show s_in 2 0 3 = true by decide).symm.trans z) (by decide))
  refine q_Wp.gn 1 (c' := (15, [some (.ref 34), some (.int 2), none, none], [.int (M.1 34 13)], M)) rfl ?_
  refine q_Wp.cv (c' := (15, [some (.ref 34), some (.int 2), none, none], [.int 1], M)) (by first | rw [hon] | simp only [hon]) ?_
  refine q_Wp.gc 2 (mj := 82) (as := [.ref 34]) (pc := 25) (ls := [some (.ref 34), some (.int 2), none, none]) (st := []) (M := M) (r1 := some (.int (nI (A t)))) (M1 := M) rfl (c_askedSet X (d + 5) (t := t) (od := od) (A := A) hA M hQ) ?_
  show q_Wp X _ 108 (25, [some (.ref 34), some (.int 2), none, none], [.int (nI (A t))], M) _
  refine q_Wp.gn 12 (c' := (69, [some (.ref 34), some (.int 2), some (.int (nI (A t))), none], [.int (M.1 34 15), .int (nI (A t)), .ref 34], M)) rfl ?_
  refine q_Wp.cv (c' := (69, [some (.ref 34), some (.int 2), some (.int (nI (A t))), none], [.int (nI t), .int (nI (A t)), .ref 34], M)) (by first | rw [hQ.1] | simp only [hQ.1]) ?_
  refine q_Wp.gp 0 (mj := 106) (as := [.ref 34, .int (nI (A t)), .int (nI t)]) (pc := 72) (ls := [some (.ref 34), some (.int 2), some (.int (nI (A t))), none]) (st := []) (M := M) rfl (c_reachesTwo X (d + 1) (n := n) (S := A t) (row := t) (u := u) (fa := fa) (sh := sh) (cn := cn) (a := a) (b := b) hO hS (by omega) M hB hT hU h10 h11) (fun r1 M2 hp3 => ?_)
  obtain ⟨rfl, y0, y1, y2⟩ := hp3
  show q_Wp X _ 108 (72, [some (.ref 34), some (.int 2), some (.int (nI (A t))), none], [.int (q_b (s_mr n fa cn a b 2 (A t) u))], M2) _
  refine q_Wp.ge0 3 (b := (s_mr n fa cn a b 2 (A t) u)) (c1 := (93, [some (.ref 34), some (.int 2), some (.int (nI (A t))), some (.int (q_b (s_mr n fa cn a b 2 (A t) u)))], [], M2)) (c2 := (89, [some (.ref 34), some (.int 2), some (.int (nI (A t))), some (.int (q_b (s_mr n fa cn a b 2 (A t) u)))], [], M2)) rfl (fun h4 => ?_) (fun h4 => ?_)
  · -- t
    refine q_Wp.gn 0 (c' := (94, [some (.ref 34), some (.int 2), some (.int (nI (A t))), some (.int (q_b (s_mr n fa cn a b 2 (A t) u)))], [.int 0], M2)) rfl ?_
    refine q_Wp.rt rfl rfl ?_
    exact ⟨by rw [h4]; rfl, y1, y2⟩
  · -- f
    refine q_Wp.gn 1 (c' := (94, [some (.ref 34), some (.int 2), some (.int (nI (A t))), some (.int (q_b (s_mr n fa cn a b 2 (A t) u)))], [.int 1], M2)) rfl ?_
    refine q_Wp.rt rfl rfl ?_
    exact ⟨by rw [h4]; rfl, y1, y2⟩

set_option maxRecDepth 10000 in
theorem m_reach_3 (X : q_X) (d : Nat) {n t : Nat} {fa : Nat → Nat → Nat} {sh : Nat → Int32} {od A : Nat → Nat} {u : Nat → Nat} {a b : Int32} {ft cn : Nat → Bool} (hO : ok_bank n fa) (hA : ok_ask t od A) (hS : A t < 2 ^ n) (M : q_M) (hB : m_bank n fa sh M) (hon : M.1 34 13 = 1) (hF : ∀ U, U < 2 ^ n → M.1 47 U = q_b (ft U)) (hT : ∀ U, U < 2 ^ n → M.1 48 U = q_b (cn U)) (hQ : m_ask t od M) (hU : ∀ s, s < 6 → M.1 46 (6 * t + s) = nI (u s)) (h10 : M.1 34 10 = a) (h11 : M.1 34 11 = b) : q_Ep X (d + 7) 108 [.ref 34, .int 3] M (fun r M' => r = some (.int (q_b (s_mr n fa cn a b 3 (A t) u))) ∧ (∀ r, r ≠ 46 → M'.1 r = M.1 r) ∧ ∀ j, j < 6 * t + 6 → M'.1 46 j = M.1 46 j) := by
  refine q_Ep.ofW rfl ?_
  show q_Wp X _ 108 (0, [some (.ref 34), some (.int 3), none, none], [], M) _
  have hn := hO.1
  have ht := hA.1
  refine q_Wp.gc 3 (mj := 67) (as := [.int 3, .int 0, .int 3]) (pc := 6) (ls := [some (.ref 34), some (.int 3), none, none]) (st := []) (M := M) (r1 := some (.int (q_b (s_in 3 0 3)))) (M1 := M) rfl (c_in X (d + 5) 3 0 3 M) ?_
  show q_Wp X _ 108 (6, [some (.ref 34), some (.int 3), none, none], [.int (q_b (s_in 3 0 3))], M) _
  refine q_Wp.gn0 0 (b := (s_in 3 0 3)) (c1 := (11, [some (.ref 34), some (.int 3), none, none], [], M)) (c2 := (9, [some (.ref 34), some (.int 3), none, none], [], M)) rfl (fun _ => ?_) (fun z => absurd ((show s_in 3 0 3 = true by decide).symm.trans z) (by decide))
  refine q_Wp.gn 1 (c' := (15, [some (.ref 34), some (.int 3), none, none], [.int (M.1 34 13)], M)) rfl ?_
  refine q_Wp.cv (c' := (15, [some (.ref 34), some (.int 3), none, none], [.int 1], M)) (by first | rw [hon] | simp only [hon]) ?_
  refine q_Wp.gc 2 (mj := 82) (as := [.ref 34]) (pc := 25) (ls := [some (.ref 34), some (.int 3), none, none]) (st := []) (M := M) (r1 := some (.int (nI (A t)))) (M1 := M) rfl (c_askedSet X (d + 5) (t := t) (od := od) (A := A) hA M hQ) ?_
  show q_Wp X _ 108 (25, [some (.ref 34), some (.int 3), none, none], [.int (nI (A t))], M) _
  refine q_Wp.gn 12 (c' := (81, [some (.ref 34), some (.int 3), some (.int (nI (A t))), none], [.int (M.1 34 15), .int (nI (A t)), .ref 34], M)) rfl ?_
  refine q_Wp.cv (c' := (81, [some (.ref 34), some (.int 3), some (.int (nI (A t))), none], [.int (nI t), .int (nI (A t)), .ref 34], M)) (by first | rw [hQ.1] | simp only [hQ.1]) ?_
  refine q_Wp.gp 0 (mj := 107) (as := [.ref 34, .int (nI (A t)), .int (nI t)]) (pc := 84) (ls := [some (.ref 34), some (.int 3), some (.int (nI (A t))), none]) (st := []) (M := M) rfl (c_reachesThree X d (n := n) (S := A t) (row := t) (u := u) (fa := fa) (sh := sh) (cn := cn) (a := a) (b := b) hO hS (by omega) M hB hT hU h10 h11) (fun r1 M2 hp3 => ?_)
  obtain ⟨rfl, y0, y1, y2⟩ := hp3
  show q_Wp X _ 108 (84, [some (.ref 34), some (.int 3), some (.int (nI (A t))), none], [.int (q_b (s_mr n fa cn a b 3 (A t) u))], M2) _
  refine q_Wp.ge0 2 (b := (s_mr n fa cn a b 3 (A t) u)) (c1 := (93, [some (.ref 34), some (.int 3), some (.int (nI (A t))), some (.int (q_b (s_mr n fa cn a b 3 (A t) u)))], [], M2)) (c2 := (89, [some (.ref 34), some (.int 3), some (.int (nI (A t))), some (.int (q_b (s_mr n fa cn a b 3 (A t) u)))], [], M2)) rfl (fun h4 => ?_) (fun h4 => ?_)
  · -- t
    refine q_Wp.gn 0 (c' := (94, [some (.ref 34), some (.int 3), some (.int (nI (A t))), some (.int (q_b (s_mr n fa cn a b 3 (A t) u)))], [.int 0], M2)) rfl ?_
    refine q_Wp.rt rfl rfl ?_
    exact ⟨by rw [h4]; rfl, y1, y2⟩
  · -- f
    refine q_Wp.gn 1 (c' := (94, [some (.ref 34), some (.int 3), some (.int (nI (A t))), some (.int (q_b (s_mr n fa cn a b 3 (A t) u)))], [.int 1], M2)) rfl ?_
    refine q_Wp.rt rfl rfl ?_
    exact ⟨by rw [h4]; rfl, y1, y2⟩

set_option maxRecDepth 10000 in
theorem m_count_off (X : q_X) (d : Nat) {n : Nat} (x : Int32) (M : q_M) (hsz : M.1 34 0 = nI n) (hon : M.1 34 13 = 0) : q_Ev X (d + 5) 109 [.ref 34, .int x] M (some (.int (s_c9 x (nI n) (M.1 34 7) 0 0 (M.1 34 14) 0 (M.1 34 10) (M.1 34 11) 0))) (M) := by
  refine q_Ev.ofW rfl ?_
  show q_Wp X _ 109 (0, [some (.ref 34), some (.int x)], [], M) _
  refine q_Wp.gn 0 (c' := (1, [some (.ref 34), some (.int x)], [.int x], M)) rfl ?_
  by_cases h1_0 : x = 0
  · -- 0
    subst h1_0
    refine q_Wp.gn 0 (c' := (52, [some (.ref 34), some (.int 0)], [], M)) rfl ?_
    refine q_Wp.gn 1 (c' := (56, [some (.ref 34), some (.int 0)], [.int (M.1 34 0)], M)) rfl ?_
    refine q_Wp.cv (c' := (56, [some (.ref 34), some (.int 0)], [.int (nI n)], M)) (by first | rw [hsz] | simp only [hsz]) ?_
    exact q_Wp.rt rfl rfl ⟨by simp [s_c9, *], by rfl⟩
  by_cases h1_1 : x = 1
  · -- 1
    subst h1_1
    refine q_Wp.gn 0 (c' := (57, [some (.ref 34), some (.int 1)], [], M)) rfl ?_
    refine q_Wp.gn 1 (c' := (61, [some (.ref 34), some (.int 1)], [.int (M.1 34 7)], M)) rfl ?_
    exact q_Wp.rt rfl rfl ⟨by simp [s_c9, *], by rfl⟩
  by_cases h1_2 : x = 2
  · -- 2
    subst h1_2
    refine q_Wp.gn 0 (c' := (62, [some (.ref 34), some (.int 2)], [], M)) rfl ?_
    refine q_Wp.gn 1 (c' := (66, [some (.ref 34), some (.int 2)], [.int (M.1 34 13)], M)) rfl ?_
    refine q_Wp.cv (c' := (66, [some (.ref 34), some (.int 2)], [.int 0], M)) (by first | rw [hon] | simp only [hon]) ?_
    refine q_Wp.gn 1 (c' := (74, [some (.ref 34), some (.int 2)], [.int 0], M)) rfl ?_
    exact q_Wp.rt rfl rfl ⟨by simp [s_c9, *], by rfl⟩
  by_cases h1_3 : x = 3
  · -- 3
    subst h1_3
    refine q_Wp.gn 0 (c' := (75, [some (.ref 34), some (.int 3)], [], M)) rfl ?_
    refine q_Wp.gn 1 (c' := (79, [some (.ref 34), some (.int 3)], [.int (M.1 34 13)], M)) rfl ?_
    refine q_Wp.cv (c' := (79, [some (.ref 34), some (.int 3)], [.int 0], M)) (by first | rw [hon] | simp only [hon]) ?_
    refine q_Wp.gn 1 (c' := (90, [some (.ref 34), some (.int 3)], [.int 0], M)) rfl ?_
    exact q_Wp.rt rfl rfl ⟨by simp [s_c9, *], by rfl⟩
  by_cases h1_4 : x = 4
  · -- 4
    subst h1_4
    refine q_Wp.gn 0 (c' := (91, [some (.ref 34), some (.int 4)], [], M)) rfl ?_
    refine q_Wp.gn 1 (c' := (95, [some (.ref 34), some (.int 4)], [.int (M.1 34 14)], M)) rfl ?_
    exact q_Wp.rt rfl rfl ⟨by simp [s_c9, *], by rfl⟩
  by_cases h1_5 : x = 5
  · -- 5
    subst h1_5
    refine q_Wp.gn 0 (c' := (96, [some (.ref 34), some (.int 5)], [], M)) rfl ?_
    refine q_Wp.gn 1 (c' := (100, [some (.ref 34), some (.int 5)], [.int (M.1 34 13)], M)) rfl ?_
    refine q_Wp.cv (c' := (100, [some (.ref 34), some (.int 5)], [.int 0], M)) (by first | rw [hon] | simp only [hon]) ?_
    refine q_Wp.gn 1 (c' := (111, [some (.ref 34), some (.int 5)], [.int 0], M)) rfl ?_
    exact q_Wp.rt rfl rfl ⟨by simp [s_c9, *], by rfl⟩
  by_cases h1_6 : x = 6
  · -- 6
    subst h1_6
    refine q_Wp.gn 0 (c' := (112, [some (.ref 34), some (.int 6)], [], M)) rfl ?_
    refine q_Wp.gn 1 (c' := (116, [some (.ref 34), some (.int 6)], [.int (M.1 34 10)], M)) rfl ?_
    exact q_Wp.rt rfl rfl ⟨by simp [s_c9, *], by rfl⟩
  by_cases h1_7 : x = 7
  · -- 7
    subst h1_7
    refine q_Wp.gn 0 (c' := (117, [some (.ref 34), some (.int 7)], [], M)) rfl ?_
    refine q_Wp.gn 1 (c' := (121, [some (.ref 34), some (.int 7)], [.int (M.1 34 11)], M)) rfl ?_
    exact q_Wp.rt rfl rfl ⟨by simp [s_c9, *], by rfl⟩
  by_cases h1_8 : x = 8
  · -- 8
    subst h1_8
    refine q_Wp.gn 0 (c' := (122, [some (.ref 34), some (.int 8)], [], M)) rfl ?_
    refine q_Wp.gn 1 (c' := (126, [some (.ref 34), some (.int 8)], [.int (M.1 34 13)], M)) rfl ?_
    refine q_Wp.cv (c' := (126, [some (.ref 34), some (.int 8)], [.int 0], M)) (by first | rw [hon] | simp only [hon]) ?_
    refine q_Wp.gn 1 (c' := (142, [some (.ref 34), some (.int 8)], [.int 0], M)) rfl ?_
    exact q_Wp.rt rfl rfl ⟨by simp [s_c9, *], by rfl⟩
  refine q_Wp.sw (dd := 142) (lo := 0) (hi := 8) (os := #[51, 56, 61, 74, 90, 95, 111, 116, 121]) (ex := 51) (t := 143) rfl rfl (q_sw9 h1_0 h1_1 h1_2 h1_3 h1_4 h1_5 h1_6 h1_7 h1_8) ?_
  refine q_Wp.gn 0 (c' := (144, [some (.ref 34), some (.int x)], [.int (-1)], M)) rfl ?_
  exact q_Wp.rt rfl rfl ⟨by simp [s_c9, *], by rfl⟩

set_option maxRecDepth 10000 in
theorem m_count_on (X : q_X) (d : Nat) {n t : Nat} {fa : Nat → Nat → Nat} {sh : Nat → Int32} {od A : Nat → Nat} {ft cn : Nat → Bool} (hO : ok_bank n fa) (hA : ok_ask t od A) (hS : A t < 2 ^ n) (x : Int32) (M : q_M) (hB : m_bank n fa sh M) (hon : M.1 34 13 = 1) (hF : ∀ U, U < 2 ^ n → M.1 47 U = q_b (ft U)) (hT : ∀ U, U < 2 ^ n → M.1 48 U = q_b (cn U)) (hQ : m_ask t od M) : q_Ev X (d + 5) 109 [.ref 34, .int x] M (some (.int (s_c9 x (nI n) (M.1 34 7) 1 (nI t) (M.1 34 14) (nI (s_ct n (s_may n fa cn (A t)))) (M.1 34 10) (M.1 34 11) (Int64.toInt32 (s_sumL (s_row M t)))))) (M) := by
  refine q_Ev.ofW rfl ?_
  show q_Wp X _ 109 (0, [some (.ref 34), some (.int x)], [], M) _
  have hn := hO.1
  have ht := hA.1
  refine q_Wp.gn 0 (c' := (1, [some (.ref 34), some (.int x)], [.int x], M)) rfl ?_
  by_cases h1_0 : x = 0
  · -- 0
    subst h1_0
    refine q_Wp.gn 0 (c' := (52, [some (.ref 34), some (.int 0)], [], M)) rfl ?_
    refine q_Wp.gn 1 (c' := (56, [some (.ref 34), some (.int 0)], [.int (M.1 34 0)], M)) rfl ?_
    refine q_Wp.cv (c' := (56, [some (.ref 34), some (.int 0)], [.int (nI n)], M)) (by first | rw [hB.1] | simp only [hB.1]) ?_
    exact q_Wp.rt rfl rfl ⟨by simp [s_c9, *], by rfl⟩
  by_cases h1_1 : x = 1
  · -- 1
    subst h1_1
    refine q_Wp.gn 0 (c' := (57, [some (.ref 34), some (.int 1)], [], M)) rfl ?_
    refine q_Wp.gn 1 (c' := (61, [some (.ref 34), some (.int 1)], [.int (M.1 34 7)], M)) rfl ?_
    exact q_Wp.rt rfl rfl ⟨by simp [s_c9, *], by rfl⟩
  by_cases h1_2 : x = 2
  · -- 2
    subst h1_2
    refine q_Wp.gn 0 (c' := (62, [some (.ref 34), some (.int 2)], [], M)) rfl ?_
    refine q_Wp.gn 1 (c' := (66, [some (.ref 34), some (.int 2)], [.int (M.1 34 13)], M)) rfl ?_
    refine q_Wp.cv (c' := (66, [some (.ref 34), some (.int 2)], [.int 1], M)) (by first | rw [hon] | simp only [hon]) ?_
    refine q_Wp.gn 2 (c' := (74, [some (.ref 34), some (.int 2)], [.int 1], M)) rfl ?_
    exact q_Wp.rt rfl rfl ⟨by simp [s_c9, *], by rfl⟩
  by_cases h1_3 : x = 3
  · -- 3
    subst h1_3
    refine q_Wp.gn 0 (c' := (75, [some (.ref 34), some (.int 3)], [], M)) rfl ?_
    refine q_Wp.gn 1 (c' := (79, [some (.ref 34), some (.int 3)], [.int (M.1 34 13)], M)) rfl ?_
    refine q_Wp.cv (c' := (79, [some (.ref 34), some (.int 3)], [.int 1], M)) (by first | rw [hon] | simp only [hon]) ?_
    refine q_Wp.gn 2 (c' := (86, [some (.ref 34), some (.int 3)], [.int (M.1 34 15)], M)) rfl ?_
    refine q_Wp.cv (c' := (86, [some (.ref 34), some (.int 3)], [.int (nI t)], M)) (by first | rw [hQ.1] | simp only [hQ.1]) ?_
    refine q_Wp.gn 0 (c' := (90, [some (.ref 34), some (.int 3)], [.int (nI t)], M)) rfl ?_
    exact q_Wp.rt rfl rfl ⟨by simp [s_c9, *], by rfl⟩
  by_cases h1_4 : x = 4
  · -- 4
    subst h1_4
    refine q_Wp.gn 0 (c' := (91, [some (.ref 34), some (.int 4)], [], M)) rfl ?_
    refine q_Wp.gn 1 (c' := (95, [some (.ref 34), some (.int 4)], [.int (M.1 34 14)], M)) rfl ?_
    exact q_Wp.rt rfl rfl ⟨by simp [s_c9, *], by rfl⟩
  by_cases h1_5 : x = 5
  · -- 5
    subst h1_5
    refine q_Wp.gn 0 (c' := (96, [some (.ref 34), some (.int 5)], [], M)) rfl ?_
    refine q_Wp.gn 1 (c' := (100, [some (.ref 34), some (.int 5)], [.int (M.1 34 13)], M)) rfl ?_
    refine q_Wp.cv (c' := (100, [some (.ref 34), some (.int 5)], [.int 1], M)) (by first | rw [hon] | simp only [hon]) ?_
    refine q_Wp.gc 2 (mj := 85) (as := [.ref 34]) (pc := 107) (ls := [some (.ref 34), some (.int 5)]) (st := []) (M := M) (r1 := some (.int (nI (s_ct n (s_may n fa cn (A t)))))) (M1 := M) rfl (c_mayMany X d (n := n) (t := t) (fa := fa) (sh := sh) (od := od) (A := A) (cn := cn) hO hA hS M hB hT hQ) ?_
    show q_Wp X _ 109 (107, [some (.ref 34), some (.int 5)], [.int (nI (s_ct n (s_may n fa cn (A t))))], M) _
    refine q_Wp.gn 0 (c' := (111, [some (.ref 34), some (.int 5)], [.int (nI (s_ct n (s_may n fa cn (A t))))], M)) rfl ?_
    exact q_Wp.rt rfl rfl ⟨by simp [s_c9, *], by rfl⟩
  by_cases h1_6 : x = 6
  · -- 6
    subst h1_6
    refine q_Wp.gn 0 (c' := (112, [some (.ref 34), some (.int 6)], [], M)) rfl ?_
    refine q_Wp.gn 1 (c' := (116, [some (.ref 34), some (.int 6)], [.int (M.1 34 10)], M)) rfl ?_
    exact q_Wp.rt rfl rfl ⟨by simp [s_c9, *], by rfl⟩
  by_cases h1_7 : x = 7
  · -- 7
    subst h1_7
    refine q_Wp.gn 0 (c' := (117, [some (.ref 34), some (.int 7)], [], M)) rfl ?_
    refine q_Wp.gn 1 (c' := (121, [some (.ref 34), some (.int 7)], [.int (M.1 34 11)], M)) rfl ?_
    exact q_Wp.rt rfl rfl ⟨by simp [s_c9, *], by rfl⟩
  by_cases h1_8 : x = 8
  · -- 8
    subst h1_8
    refine q_Wp.gn 0 (c' := (122, [some (.ref 34), some (.int 8)], [], M)) rfl ?_
    refine q_Wp.gn 1 (c' := (126, [some (.ref 34), some (.int 8)], [.int (M.1 34 13)], M)) rfl ?_
    refine q_Wp.cv (c' := (126, [some (.ref 34), some (.int 8)], [.int 1], M)) (by first | rw [hon] | simp only [hon]) ?_
    refine q_Wp.gn 3 (c' := (134, [some (.ref 34), some (.int 8)], [.int (M.1 34 15), .ref 34], M)) rfl ?_
    refine q_Wp.cv (c' := (134, [some (.ref 34), some (.int 8)], [.int (nI t), .ref 34], M)) (by first | rw [hQ.1] | simp only [hQ.1]) ?_
    refine q_Wp.gc 0 (mj := 87) (as := [.ref 34, .int (nI t)]) (pc := 137) (ls := [some (.ref 34), some (.int 8)]) (st := []) (M := M) (r1 := some (.long (s_sumL (s_row M t)))) (M1 := M) rfl (c_sum X (d + 3) (r := t) (by omega) M) ?_
    show q_Wp X _ 109 (137, [some (.ref 34), some (.int 8)], [.long (s_sumL (s_row M t))], M) _
    refine q_Wp.gn 1 (c' := (142, [some (.ref 34), some (.int 8)], [.int (Int64.toInt32 (s_sumL (s_row M t)))], M)) rfl ?_
    exact q_Wp.rt rfl rfl ⟨by simp [s_c9, *], by rfl⟩
  refine q_Wp.sw (dd := 142) (lo := 0) (hi := 8) (os := #[51, 56, 61, 74, 90, 95, 111, 116, 121]) (ex := 51) (t := 143) rfl rfl (q_sw9 h1_0 h1_1 h1_2 h1_3 h1_4 h1_5 h1_6 h1_7 h1_8) ?_
  refine q_Wp.gn 0 (c' := (144, [some (.ref 34), some (.int x)], [.int (-1)], M)) rfl ?_
  exact q_Wp.rt rfl rfl ⟨by simp [s_c9, *], by rfl⟩

