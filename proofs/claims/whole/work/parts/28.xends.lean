/-! Contracts: answer, quit, asked, reach, count of the class (by program: wip/whole/c28.py) -/
set_option maxRecDepth 10000 in
theorem c_answer_off (X : q_X) (d : Nat) {n : Nat} (q : Int32) (rg : Bool) (M : q_M) (hsz : M.1 1 0 = nI n) (hon : M.1 23 0 = 0) : q_Ev X (d + 6) 38 [.ref 0, .int q, .int (q_b rg)] M (some (.int (if s_has (nI n) q = true then -2 else -1))) (M) := by
  refine q_Ev.ofW rfl ?_
  show q_Wp X _ 38 (0, [some (.ref 0), some (.int q), some (.int (q_b rg))], [], M) _
  refine q_Wp.gc 3 (mj := 2) (as := [.ref 1, .int q]) (pc := 8) (ls := [some (.ref 0), some (.int q), some (.int (q_b rg))]) (st := []) (M := M) (r1 := some (.int (q_b (s_has (M.1 1 0) q)))) (M1 := M) rfl (c_has X (d + 4) q M) ?_
  show q_Wp X _ 38 (8, [some (.ref 0), some (.int q), some (.int (q_b rg))], [.int (q_b (s_has (M.1 1 0) q))], M) _
  refine q_Wp.cv (c' := (8, [some (.ref 0), some (.int q), some (.int (q_b rg))], [.int (q_b (s_has (nI n) q))], M)) (by first | rw [hsz] | simp only [hsz]) ?_
  refine q_Wp.gn0 0 (b := (s_has (nI n) q)) (c1 := (13, [some (.ref 0), some (.int q), some (.int (q_b rg))], [], M)) (c2 := (11, [some (.ref 0), some (.int q), some (.int (q_b rg))], [], M)) rfl (fun h1 => ?_) (fun h1 => ?_)
  · -- t
    refine q_Wp.gn 2 (c' := (20, [some (.ref 0), some (.int q), some (.int (q_b rg))], [.int (M.1 23 0)], M)) rfl ?_
    refine q_Wp.cv (c' := (20, [some (.ref 0), some (.int q), some (.int (q_b rg))], [.int 0], M)) (by first | rw [hon] | simp only [hon]) ?_
    refine q_Wp.gn 1 (c' := (43, [some (.ref 0), some (.int q), some (.int (q_b rg))], [.int (-2)], M)) rfl ?_
    exact q_Wp.rt rfl rfl ⟨by simp [*], by rfl⟩
  · -- f
    refine q_Wp.gn 0 (c' := (12, [some (.ref 0), some (.int q), some (.int (q_b rg))], [.int (-1)], M)) rfl ?_
    exact q_Wp.rt rfl rfl ⟨by simp [*], by rfl⟩

set_option maxRecDepth 10000 in
theorem c_answer_no (X : q_X) (d : Nat) {n A t : Nat} {fa : Nat → Nat → Nat} {wn ft : Nat → Bool} (hn : n ≤ 10) (hA : A < 2 ^ n) (ht : t ≤ 6) (q : Int32) (rg : Bool) (M : q_M) (hsz : M.1 1 0 = nI n) (hon : M.1 23 0 = 1) (hs : x_set n fa wn ft M) (hAM : M.1 23 3 = nI A) (hT : M.1 23 2 = nI t) (hno : s_has (nI n) q = true → (s_done (ft A) (s_sureX (M.1 (27 + t)) (M.1 13 1) (M.1 13 2)) (s_xm n fa ft A)) = 0 → (s_xm n fa ft A).testBit q.toNatClampNeg = false) : q_Ev X (d + 6) 38 [.ref 0, .int q, .int (q_b rg)] M (some (.int (if s_has (nI n) q = true then -2 else -1))) (M) := by
  refine q_Ev.ofW rfl ?_
  show q_Wp X _ 38 (0, [some (.ref 0), some (.int q), some (.int (q_b rg))], [], M) _
  refine q_Wp.gc 3 (mj := 2) (as := [.ref 1, .int q]) (pc := 8) (ls := [some (.ref 0), some (.int q), some (.int (q_b rg))]) (st := []) (M := M) (r1 := some (.int (q_b (s_has (M.1 1 0) q)))) (M1 := M) rfl (c_has X (d + 4) q M) ?_
  show q_Wp X _ 38 (8, [some (.ref 0), some (.int q), some (.int (q_b rg))], [.int (q_b (s_has (M.1 1 0) q))], M) _
  refine q_Wp.cv (c' := (8, [some (.ref 0), some (.int q), some (.int (q_b rg))], [.int (q_b (s_has (nI n) q))], M)) (by first | rw [hsz] | simp only [hsz]) ?_
  refine q_Wp.gn0 0 (b := (s_has (nI n) q)) (c1 := (13, [some (.ref 0), some (.int q), some (.int (q_b rg))], [], M)) (c2 := (11, [some (.ref 0), some (.int q), some (.int (q_b rg))], [], M)) rfl (fun h1 => ?_) (fun h1 => ?_)
  · -- t
    obtain ⟨k, hk, rfl⟩ := s_has_inv hn h1
    have hck : (nI k).toNatClampNeg = k := nI_clamp (by omega)
    refine q_Wp.gn 2 (c' := (20, [some (.ref 0), some (.int (nI k)), some (.int (q_b rg))], [.int (M.1 23 0)], M)) rfl ?_
    refine q_Wp.cv (c' := (20, [some (.ref 0), some (.int (nI k)), some (.int (q_b rg))], [.int 1], M)) (by first | rw [hon] | simp only [hon]) ?_
    refine q_Wp.gc 2 (mj := 50) (as := [.ref 0]) (pc := 27) (ls := [some (.ref 0), some (.int (nI k)), some (.int (q_b rg))]) (st := []) (M := M) (r1 := some (.int (s_done (ft A) (s_sureX (M.1 (27 + t)) (M.1 13 1) (M.1 13 2)) (s_xm n fa ft A)))) (M1 := M) rfl (c_doneness X d (n := n) (A := A) (t := t) (fa := fa) (wn := wn) (ft := ft) hn hA ht M hs hAM hT) ?_
    show q_Wp X _ 38 (27, [some (.ref 0), some (.int (nI k)), some (.int (q_b rg))], [.int (s_done (ft A) (s_sureX (M.1 (27 + t)) (M.1 13 1) (M.1 13 2)) (s_xm n fa ft A))], M) _
    refine q_Wp.gd 0 (¬ (s_done (ft A) (s_sureX (M.1 (27 + t)) (M.1 13 1) (M.1 13 2)) (s_xm n fa ft A)) = 0) (c1 := (41, [some (.ref 0), some (.int (nI k)), some (.int (q_b rg))], [], M)) (c2 := (30, [some (.ref 0), some (.int (nI k)), some (.int (q_b rg))], [], M)) rfl (fun h2 => ?_) (fun h2 => ?_)
    · -- tt
      skip
      refine q_Wp.gn 0 (c' := (43, [some (.ref 0), some (.int (nI k)), some (.int (q_b rg))], [.int (-2)], M)) rfl ?_
      exact q_Wp.rt rfl rfl ⟨by simp [*], by rfl⟩
    · -- tf
      have h2 : (s_done (ft A) (s_sureX (M.1 (27 + t)) (M.1 13 1) (M.1 13 2)) (s_xm n fa ft A)) = 0 := Classical.byContradiction h2
      refine q_Wp.gc 1 (mj := 49) (as := [.ref 0]) (pc := 34) (ls := [some (.ref 0), some (.int (nI k)), some (.int (q_b rg))]) (st := []) (M := M) (r1 := some (.int (nI (s_xm n fa ft A)))) (M1 := M) rfl (c_askable X (d + 1) (n := n) (A := A) (fa := fa) (wn := wn) (ft := ft) hn hA M hs hAM) ?_
      show q_Wp X _ 38 (34, [some (.ref 0), some (.int (nI k)), some (.int (q_b rg))], [.int (nI (s_xm n fa ft A))], M) _
      refine q_Wp.gc 1 (mj := 58) (as := [.int (nI (s_xm n fa ft A)), .int (nI k)]) (pc := 38) (ls := [some (.ref 0), some (.int (nI k)), some (.int (q_b rg))]) (st := []) (M := M) (r1 := some (.int (q_b (s_isIn (nI (s_xm n fa ft A)) (nI k))))) (M1 := M) rfl (c_isIn X (d + 4) (nI (s_xm n fa ft A)) (nI k) M) ?_
      show q_Wp X _ 38 (38, [some (.ref 0), some (.int (nI k)), some (.int (q_b rg))], [.int (q_b (s_isIn (nI (s_xm n fa ft A)) (nI k)))], M) _
      refine q_Wp.cv (c' := (38, [some (.ref 0), some (.int (nI k)), some (.int (q_b rg))], [.int (q_b ((s_xm n fa ft A).testBit k))], M)) (by first | rw [s_isIn_b (K := s_xm n fa ft A) (q := k) (by omega)] | simp only [s_isIn_b (K := s_xm n fa ft A) (q := k) (by omega)]) ?_
      refine q_Wp.gn0 0 (b := ((s_xm n fa ft A).testBit k)) (c1 := (44, [some (.ref 0), some (.int (nI k)), some (.int (q_b rg))], [], M)) (c2 := (41, [some (.ref 0), some (.int (nI k)), some (.int (q_b rg))], [], M)) rfl (fun h3 => ?_) (fun h3 => ?_)
      · -- tft
        have hz := hno (by assumption) (by first | assumption | exact Classical.byContradiction h2)
        rw [hck, h3] at hz
        cases hz
      · -- tff
        refine q_Wp.gn 0 (c' := (43, [some (.ref 0), some (.int (nI k)), some (.int (q_b rg))], [.int (-2)], M)) rfl ?_
        exact q_Wp.rt rfl rfl ⟨by simp [*], by rfl⟩
  · -- f
    refine q_Wp.gn 0 (c' := (12, [some (.ref 0), some (.int q), some (.int (q_b rg))], [.int (-1)], M)) rfl ?_
    exact q_Wp.rt rfl rfl ⟨by simp [*], by rfl⟩

theorem x_bank.keepn {n : Nat} {fa : Nat → Nat → Nat} {sh : Nat → Int32} {M M' : q_M} (h : x_bank n fa sh M) (hn : n ≤ 10) (hf : ∀ r, r < 13 → M'.1 r = M.1 r) : x_bank n fa sh M' :=
  ⟨by rw [hf 1 (by decide)]; exact h.1, fun q hq => ⟨fun v hv hv4 => by rw [hf (3 + q) (by omega)]; exact (h.2 q hq).1 v hv hv4, by rw [hf (3 + q) (by omega)]; exact (h.2 q hq).2⟩⟩
set_option maxRecDepth 10000 in
theorem c_answer_ok (X : q_X) (d : Nat) {n A t k : Nat} {fa : Nat → Nat → Nat} {wn ft : Nat → Bool} (hn : n ≤ 10) (hA : A < 2 ^ n) (ht : t ≤ 6) {sh : Nat → Int32} (hk : k < n) (ht5 : t ≤ 5) (rg : Bool) (M : q_M) (hB : x_bank n fa sh M) (hon : M.1 23 0 = 1) (hs : x_set n fa wn ft M) (hAM : M.1 23 3 = nI A) (hT : M.1 23 2 = nI t) (hd : (s_done (ft A) (s_sureX (M.1 (27 + t)) (M.1 13 1) (M.1 13 2)) (s_xm n fa ft A)) = 0) (hb : (s_xm n fa ft A).testBit k = true) : q_Ep X (d + 6) 38 [.ref 0, .int (nI k), .int (q_b rg)] M (fun r M' => r = some (.int (nI (t + 1))) ∧ (∀ r, r ≠ 27 + (t + 1) → r ≠ 23 → r ≠ 24 → r ≠ 25 → (r < 3 ∨ 3 + n ≤ r) → M'.1 r = M.1 r) ∧ x_bank n fa (fun q => if q = k then sh q + 1 else sh q) M' ∧ (∀ s, s < 6 → M'.1 (27 + (t + 1)) s = M.1 (27 + t) s * s_fac (M.1 (3 + k)) s (q_b rg)) ∧ M'.1 23 0 = 1 ∧ M'.1 23 1 = M.1 23 1 ∧ M'.1 23 2 = nI (t + 1) ∧ M'.1 23 3 = nI (A ||| 2 ^ k) ∧ (∀ i, M'.1 24 i = if i = t then nI k else M.1 24 i) ∧ ∀ i, M'.1 25 i = if i = t then q_b rg else M.1 25 i) := by
  refine q_Ep.ofW rfl ?_
  show q_Wp X _ 38 (0, [some (.ref 0), some (.int (nI k)), some (.int (q_b rg))], [], M) _
  have hh : s_has (M.1 1 0) (nI k) = true := s_has_ok hB.1 hk hn
  refine q_Wp.gc 3 (mj := 2) (as := [.ref 1, .int (nI k)]) (pc := 8) (ls := [some (.ref 0), some (.int (nI k)), some (.int (q_b rg))]) (st := []) (M := M) (r1 := some (.int (q_b (s_has (M.1 1 0) (nI k))))) (M1 := M) rfl (c_has X (d + 4) (nI k) M) ?_
  show q_Wp X _ 38 (8, [some (.ref 0), some (.int (nI k)), some (.int (q_b rg))], [.int (q_b (s_has (M.1 1 0) (nI k)))], M) _
  refine q_Wp.cv (c' := (8, [some (.ref 0), some (.int (nI k)), some (.int (q_b rg))], [.int 1], M)) (by first | rw [hh, q_bt] | simp only [hh, q_bt]) ?_
  refine q_Wp.gn 3 (c' := (20, [some (.ref 0), some (.int (nI k)), some (.int (q_b rg))], [.int (M.1 23 0)], M)) rfl ?_
  refine q_Wp.cv (c' := (20, [some (.ref 0), some (.int (nI k)), some (.int (q_b rg))], [.int 1], M)) (by first | rw [hon] | simp only [hon]) ?_
  refine q_Wp.gc 2 (mj := 50) (as := [.ref 0]) (pc := 27) (ls := [some (.ref 0), some (.int (nI k)), some (.int (q_b rg))]) (st := []) (M := M) (r1 := some (.int (s_done (ft A) (s_sureX (M.1 (27 + t)) (M.1 13 1) (M.1 13 2)) (s_xm n fa ft A)))) (M1 := M) rfl (c_doneness X d (n := n) (A := A) (t := t) (fa := fa) (wn := wn) (ft := ft) hn hA ht M hs hAM hT) ?_
  show q_Wp X _ 38 (27, [some (.ref 0), some (.int (nI k)), some (.int (q_b rg))], [.int (s_done (ft A) (s_sureX (M.1 (27 + t)) (M.1 13 1) (M.1 13 2)) (s_xm n fa ft A))], M) _
  refine q_Wp.gd 0 (¬ (s_done (ft A) (s_sureX (M.1 (27 + t)) (M.1 13 1) (M.1 13 2)) (s_xm n fa ft A)) = 0) (c1 := (41, [some (.ref 0), some (.int (nI k)), some (.int (q_b rg))], [], M)) (c2 := (30, [some (.ref 0), some (.int (nI k)), some (.int (q_b rg))], [], M)) rfl (fun z => absurd z (fun y => y hd)) (fun _ => ?_)
  refine q_Wp.gc 1 (mj := 49) (as := [.ref 0]) (pc := 34) (ls := [some (.ref 0), some (.int (nI k)), some (.int (q_b rg))]) (st := []) (M := M) (r1 := some (.int (nI (s_xm n fa ft A)))) (M1 := M) rfl (c_askable X (d + 1) (n := n) (A := A) (fa := fa) (wn := wn) (ft := ft) hn hA M hs hAM) ?_
  show q_Wp X _ 38 (34, [some (.ref 0), some (.int (nI k)), some (.int (q_b rg))], [.int (nI (s_xm n fa ft A))], M) _
  refine q_Wp.gc 1 (mj := 58) (as := [.int (nI (s_xm n fa ft A)), .int (nI k)]) (pc := 38) (ls := [some (.ref 0), some (.int (nI k)), some (.int (q_b rg))]) (st := []) (M := M) (r1 := some (.int (q_b (s_isIn (nI (s_xm n fa ft A)) (nI k))))) (M1 := M) rfl (c_isIn X (d + 4) (nI (s_xm n fa ft A)) (nI k) M) ?_
  show q_Wp X _ 38 (38, [some (.ref 0), some (.int (nI k)), some (.int (q_b rg))], [.int (q_b (s_isIn (nI (s_xm n fa ft A)) (nI k)))], M) _
  refine q_Wp.cv (c' := (38, [some (.ref 0), some (.int (nI k)), some (.int (q_b rg))], [.int (q_b ((s_xm n fa ft A).testBit k))], M)) (by first | rw [s_isIn_b (K := s_xm n fa ft A) (q := k) (by omega)] | simp only [s_isIn_b (K := s_xm n fa ft A) (q := k) (by omega)]) ?_
  refine q_Wp.gn0 0 (b := ((s_xm n fa ft A).testBit k)) (c1 := (44, [some (.ref 0), some (.int (nI k)), some (.int (q_b rg))], [], M)) (c2 := (41, [some (.ref 0), some (.int (nI k)), some (.int (q_b rg))], [], M)) rfl (fun _ => ?_) (fun z => absurd (hb.symm.trans z) (by decide))
  refine q_Wp.gp 6 (mj := 26) (as := [.ref 23, .ref 1, .int (nI k), .int (q_b rg)]) (pc := 57) (ls := [some (.ref 0), some (.int (nI k)), some (.int (q_b rg))]) (st := []) (M := M) rfl (c_note X (d + 1) (n := n) (k := k) (t := t) (A := A) ht5 rg M hB.1 hk hn hT hAM) (fun r1 M2 hp3 => ?_)
  obtain ⟨rfl, g1, g2, g3, g4, g5, g6, g7, g8, g9⟩ := hp3
  have hn2 : (q_up M2 (3 + k) 4 (M2.1 (3 + k) 4 + 1)).1 23 2 = nI (t + 1) := by rw [q_up_ne _ _ _ (by omega)]; exact g6
  have hB1 : x_bank n fa sh M2 := hB.keepn (by omega) (fun r hr => g2 r (by omega) (by omega) (by omega) (by omega))
  show q_Wp X _ 38 (57, [some (.ref 0), some (.int (nI k)), some (.int (q_b rg))], [], M2) _
  refine q_Wp.gc 4 (mj := 6) (as := [.ref 1, .int (nI k), .int 1]) (pc := 66) (ls := [some (.ref 0), some (.int (nI k)), some (.int (q_b rg))]) (st := []) (M := M2) (r1 := none) (M1 := q_up M2 (3 + k) 4 (M2.1 (3 + k) 4 + 1)) rfl (c_changeShown X (d + 2) 1 M2 hB1.1 hk hn) ?_
  show q_Wp X _ 38 (66, [some (.ref 0), some (.int (nI k)), some (.int (q_b rg))], [], q_up M2 (3 + k) 4 (M2.1 (3 + k) 4 + 1)) _
  refine q_Wp.gn 2 (c' := (73, [some (.ref 0), some (.int (nI k)), some (.int (q_b rg))], [.int ((q_up M2 (3 + k) 4 (M2.1 (3 + k) 4 + 1)).1 23 2)], q_up M2 (3 + k) 4 (M2.1 (3 + k) 4 + 1))) rfl ?_
  refine q_Wp.cv (c' := (73, [some (.ref 0), some (.int (nI k)), some (.int (q_b rg))], [.int (nI (t + 1))], q_up M2 (3 + k) 4 (M2.1 (3 + k) 4 + 1))) (by first | rw [hn2] | simp only [hn2]) ?_
  refine q_Wp.rt rfl rfl ?_
  refine ⟨rfl, fun r h1 h2 h3 h4 h5 => ?_, hB1.shn hn hk 1, fun s hs => ?_, ?_, ?_, hn2, ?_, fun i => ?_, fun i => ?_⟩
  · rw [q_up_ne _ _ _ (by omega)]; exact g2 r h1 h2 h3 h4
  · rw [q_up_ne _ _ _ (by omega)]; exact g3 s hs
  · rw [q_up_ne _ _ _ (by omega), g4]; exact hon
  · rw [q_up_ne _ _ _ (by omega), g5]
  · rw [q_up_ne _ _ _ (by omega), g7]
  · rw [q_up_ne _ _ _ (by omega), g8]
  · rw [q_up_ne _ _ _ (by omega), g9]

set_option maxRecDepth 10000 in
theorem c_quit_off (X : q_X) (d : Nat)  (M : q_M) (hon : M.1 23 0 = 0) : q_Ev X (d + 4) 41 [.ref 0] M (some (.int (-2))) (M) := by
  refine q_Ev.ofW rfl ?_
  show q_Wp X _ 41 (0, [some (.ref 0), none, none], [], M) _
  refine q_Wp.gn 2 (c' := (7, [some (.ref 0), none, none], [.int (M.1 23 0)], M)) rfl ?_
  refine q_Wp.cv (c' := (7, [some (.ref 0), none, none], [.int 0], M)) (by first | rw [hon] | simp only [hon]) ?_
  refine q_Wp.gn 1 (c' := (12, [some (.ref 0), none, none], [.int (-2)], M)) rfl ?_
  exact q_Wp.rt rfl rfl ⟨by rfl, by rfl⟩

set_option maxRecDepth 10000 in
theorem c_quit_on (X : q_X) (d : Nat) {n t : Nat} {fa : Nat → Nat → Nat} {sh : Nat → Int32} {od A : Nat → Nat} (hn : n ≤ 10) (hA : ok_ask t od A) (hod : ∀ i, i < t → od i < n) (hdi : ∀ i, i < t → (A i).testBit (od i) = false) (hAl : ∀ i, i ≤ t → A i < 1024) (M : q_M) (hB0 : x_bank n fa sh M) (hon : M.1 23 0 = 1) (hAM0 : M.1 23 3 = nI (A t)) (hT : M.1 23 2 = nI t) (hQ0 : ∀ i, i < t → M.1 24 i = nI (od i)) : q_Ep X (d + 4) 41 [.ref 0] M (fun r M' => r = some (.int (nI t)) ∧ (∀ r, r ≠ 23 → (r < 3 ∨ 3 + n ≤ r) → M'.1 r = M.1 r) ∧ x_bank n fa (s_un od t sh) M' ∧ M'.1 23 0 = 0 ∧ M'.1 23 1 = M.1 23 1) := by
  refine q_Ep.ofW rfl ?_
  show q_Wp X _ 41 (0, [some (.ref 0), none, none], [], M) _
  have ht := hA.1
  have key : ∀ (m : Nat) (Mi : q_M) (si : Nat → Int32), m ≤ t → (∀ r, r ≠ 23 → (r < 3 ∨ 3 + n ≤ r) → Mi.1 r = M.1 r) → x_bank n fa si Mi → s_un od m si = s_un od t sh → Mi.1 23 1 = M.1 23 1 → Mi.1 23 2 = nI m → Mi.1 23 3 = nI (A m) → q_Wp X (d + 3) 41 (23, [some (.ref 0), some (.int (nI t)), some (.int (nI (t - m)))], [], Mi) (fun r M' => r = some (.int (nI t)) ∧ (∀ r, r ≠ 23 → (r < 3 ∨ 3 + n ≤ r) → M'.1 r = M.1 r) ∧ x_bank n fa (s_un od t sh) M' ∧ M'.1 23 0 = 0 ∧ M'.1 23 1 = M.1 23 1) := by
    intro m
    induction m with
    | zero =>
      intro Mi si hm hI1 hB hU hv1 hT2 hAM
      refine q_Wp.gd 2 ((nI t) ≤ (nI (t - 0))) (c1 := (49, [some (.ref 0), some (.int (nI t)), some (.int (nI (t - 0)))], [], Mi)) (c2 := (28, [some (.ref 0), some (.int (nI t)), some (.int (nI (t - 0)))], [], Mi)) rfl (fun _ => ?_) (fun z => absurd ((nI_leI (a := t) (b := t - 0) (by omega) (by omega)).mpr (by omega)) z)
      refine q_Wp.gn 4 (c' := (58, [some (.ref 0), some (.int (nI t)), some (.int (nI (t - 0)))], [.int (nI t)], q_up Mi 23 0 0)) rfl ?_
      refine q_Wp.rt rfl rfl ?_
      exact ⟨rfl, fun r h1 h2 => by rw [q_up_ne _ _ _ h1]; exact hI1 r h1 h2, hU ▸ hB.keepn (by omega) (fun r hr => q_up_ne _ _ _ (by omega)), rfl, by rw [q_up_o _ _ _ (by decide)]; exact hv1⟩
    | succ m ih =>
      intro Mi si hm hI1 hB hU hv1 hT2 hAM
      have hkm : od m < n := hod m (by omega)
      have hdm : (A m).testBit (od m) = false := hdi m (by omega)
      have hAm : A m < 1024 := hAl m (by omega)
      have hQ : Mi.1 24 m = nI (od m) := by rw [hI1 24 (by decide) (by omega)]; exact hQ0 m (by omega)
      have e33 : (q_up (q_up Mi 23 2 (nI m)) 23 3 (nI (A m))).1 (3 + od m) 4 = Mi.1 (3 + od m) 4 := by rw [q_up_ne _ _ _ (by omega), q_up_ne _ _ _ (by omega)]
      have hnx : nI (t - (m + 1)) + 1 = nI (t - m) := by rw [nI_1]; congr 1; omega
      refine q_Wp.gd 2 ((nI t) ≤ (nI (t - (m + 1)))) (c1 := (49, [some (.ref 0), some (.int (nI t)), some (.int (nI (t - (m + 1))))], [], Mi)) (c2 := (28, [some (.ref 0), some (.int (nI t)), some (.int (nI (t - (m + 1))))], [], Mi)) rfl (fun z => absurd z (nI_ge (a := t - (m + 1)) (b := t) (by omega) (by omega))) (fun _ => ?_)
      refine q_Wp.gc 4 (mj := 27) (as := [.ref 23]) (pc := 39) (ls := [some (.ref 0), some (.int (nI t)), some (.int (nI (t - (m + 1))))]) (st := [.ref 1]) (M := Mi) (r1 := some (.int (nI (od m)))) (M1 := q_up (q_up Mi 23 2 (nI m)) 23 3 (nI (A m))) rfl (c_takeLatest X (d + 1) (t := m) (A := A m) (q := od m) (by omega) hAm (by omega) hdm Mi hT2 (hAM.trans (by rw [(hA.2.2 m (by omega)).2])) hQ) ?_
      show q_Wp X _ 41 (39, [some (.ref 0), some (.int (nI t)), some (.int (nI (t - (m + 1))))], [.int (nI (od m)), .ref 1], q_up (q_up Mi 23 2 (nI m)) 23 3 (nI (A m))) _
      refine q_Wp.gc 1 (mj := 6) (as := [.ref 1, .int (nI (od m)), .int (-1)]) (pc := 43) (ls := [some (.ref 0), some (.int (nI t)), some (.int (nI (t - (m + 1))))]) (st := []) (M := q_up (q_up Mi 23 2 (nI m)) 23 3 (nI (A m))) (r1 := none) (M1 := q_up (q_up (q_up Mi 23 2 (nI m)) 23 3 (nI (A m))) (3 + (od m)) 4 ((q_up (q_up Mi 23 2 (nI m)) 23 3 (nI (A m))).1 (3 + (od m)) 4 + (-1))) rfl (c_changeShown X d (-1) (q_up (q_up Mi 23 2 (nI m)) 23 3 (nI (A m))) (n := n) hB.1 hkm hn) ?_
      show q_Wp X _ 41 (43, [some (.ref 0), some (.int (nI t)), some (.int (nI (t - (m + 1))))], [], q_up (q_up (q_up Mi 23 2 (nI m)) 23 3 (nI (A m))) (3 + (od m)) 4 ((q_up (q_up Mi 23 2 (nI m)) 23 3 (nI (A m))).1 (3 + (od m)) 4 + (-1))) _
      refine q_Wp.cv (c' := (43, [some (.ref 0), some (.int (nI t)), some (.int (nI (t - (m + 1))))], [], q_up (q_up (q_up Mi 23 2 (nI m)) 23 3 (nI (A m))) (3 + (od m)) 4 (Mi.1 (3 + od m) 4 + (-1)))) (by first | rw [e33] | simp only [e33]) ?_
      refine q_Wp.gn 0 (c' := (46, [some (.ref 0), some (.int (nI t)), some (.int ((nI (t - (m + 1))) + 1))], [], q_up (q_up (q_up Mi 23 2 (nI m)) 23 3 (nI (A m))) (3 + (od m)) 4 (Mi.1 (3 + od m) 4 + (-1)))) rfl ?_
      refine q_Wp.cv (c' := (46, [some (.ref 0), some (.int (nI t)), some (.int (nI (t - m)))], [], q_up (q_up (q_up Mi 23 2 (nI m)) 23 3 (nI (A m))) (3 + (od m)) 4 (Mi.1 (3 + od m) 4 + (-1)))) (by first | rw [hnx] | simp only [hnx]) ?_
      refine q_Wp.gn 0 (c' := (23, [some (.ref 0), some (.int (nI t)), some (.int (nI (t - m)))], [], q_up (q_up (q_up Mi 23 2 (nI m)) 23 3 (nI (A m))) (3 + (od m)) 4 (Mi.1 (3 + od m) 4 + (-1)))) rfl ?_
      have hB2 : x_bank n fa si (q_up (q_up Mi 23 2 (nI m)) 23 3 (nI (A m))) := hB.keepn (by omega) (fun r hr => (q_up_ne _ _ _ (by omega)).trans (q_up_ne _ _ _ (by omega)))
      have hB3 := hB2.shn hn hkm (-1)
      rw [e33] at hB3
      refine ih _ _ (by omega) (fun r h1 h2 => ?_) hB3 hU ?_ ?_ ?_
      · rw [q_up_ne _ _ _ (by omega), q_up_ne _ _ _ h1, q_up_ne _ _ _ h1]; exact hI1 r h1 h2
      · rw [q_up_ne _ _ _ (by omega), q_up_o _ _ _ (by decide), q_up_o _ _ _ (by decide)]; exact hv1
      · rw [q_up_ne _ _ _ (by omega), q_up_o _ _ _ (by decide), q_up_s]
      · rw [q_up_ne _ _ _ (by omega), q_up_s]
  refine q_Wp.gn 2 (c' := (7, [some (.ref 0), none, none], [.int (M.1 23 0)], M)) rfl ?_
  refine q_Wp.cv (c' := (7, [some (.ref 0), none, none], [.int 1], M)) (by first | rw [hon] | simp only [hon]) ?_
  refine q_Wp.gn 3 (c' := (20, [some (.ref 0), none, none], [.int (M.1 23 2)], M)) rfl ?_
  refine q_Wp.cv (c' := (20, [some (.ref 0), none, none], [.int (nI t)], M)) (by first | rw [hT] | simp only [hT]) ?_
  refine q_Wp.gn 2 (c' := (23, [some (.ref 0), some (.int (nI t)), some (.int 0)], [], M)) rfl ?_
  refine q_Wp.cv (c' := (23, [some (.ref 0), some (.int (nI t)), some (.int (nI (t - t)))], [], M)) (by rw [Nat.sub_self]; rfl) ?_
  exact key t M sh (Nat.le_refl _) (fun _ _ _ => rfl) hB0 rfl rfl hT hAM0

set_option maxRecDepth 10000 in
theorem c_asked_off (X : q_X) (d : Nat) (i x : Int32) (M : q_M) (hon : M.1 23 0 = 0) : q_Ev X (d + 3) 46 [.ref 0, .int i, .int x] M (some (.int (if (!decide (i < 0) && s_in x 0 1) = true then -2 else -1))) (M) := by
  refine q_Ev.ofW rfl ?_
  show q_Wp X _ 46 (0, [some (.ref 0), some (.int i), some (.int x)], [], M) _
  refine q_Wp.gd 1 (i < 0) (c1 := (13, [some (.ref 0), some (.int i), some (.int x)], [], M)) (c2 := (4, [some (.ref 0), some (.int i), some (.int x)], [], M)) rfl (fun h1 => ?_) (fun h1 => ?_)
  · -- t
    refine q_Wp.gn 0 (c' := (14, [some (.ref 0), some (.int i), some (.int x)], [.int (-1)], M)) rfl ?_
    exact q_Wp.rt rfl rfl ⟨by simp [*], by rfl⟩
  · -- f
    refine q_Wp.gc 3 (mj := 55) (as := [.int x, .int 0, .int 1]) (pc := 10) (ls := [some (.ref 0), some (.int i), some (.int x)]) (st := []) (M := M) (r1 := some (.int (q_b (s_in x 0 1)))) (M1 := M) rfl (c_isWithin X (d + 1) x 0 1 M) ?_
    show q_Wp X _ 46 (10, [some (.ref 0), some (.int i), some (.int x)], [.int (q_b (s_in x 0 1))], M) _
    refine q_Wp.gn0 0 (b := (s_in x 0 1)) (c1 := (15, [some (.ref 0), some (.int i), some (.int x)], [], M)) (c2 := (13, [some (.ref 0), some (.int i), some (.int x)], [], M)) rfl (fun h2 => ?_) (fun h2 => ?_)
    · -- ft
      refine q_Wp.gn 2 (c' := (22, [some (.ref 0), some (.int i), some (.int x)], [.int (M.1 23 0)], M)) rfl ?_
      refine q_Wp.cv (c' := (22, [some (.ref 0), some (.int i), some (.int x)], [.int 0], M)) (by first | rw [hon] | simp only [hon]) ?_
      refine q_Wp.gn 1 (c' := (27, [some (.ref 0), some (.int i), some (.int x)], [.int (-2)], M)) rfl ?_
      exact q_Wp.rt rfl rfl ⟨by simp [*], by rfl⟩
    · -- ff
      refine q_Wp.gn 0 (c' := (14, [some (.ref 0), some (.int i), some (.int x)], [.int (-1)], M)) rfl ?_
      exact q_Wp.rt rfl rfl ⟨by simp [*], by rfl⟩

set_option maxRecDepth 10000 in
theorem c_asked_on (X : q_X) (d : Nat) {t : Nat} {od : Nat → Nat} {rg : Nat → Bool} (ht : t ≤ 6) (i x : Int32) (M : q_M) (hon : M.1 23 0 = 1) (hT : M.1 23 2 = nI t) (hQ : ∀ i, i < t → M.1 24 i = nI (od i)) (hR : ∀ i, i < t → M.1 25 i = q_b (rg i)) : q_Ev X (d + 3) 46 [.ref 0, .int i, .int x] M (some (.int (if (!decide (i < 0) && s_in x 0 1 && !decide (nI t ≤ i)) = true then (if x = 0 then nI (od i.toNatClampNeg) else q_b (rg i.toNatClampNeg)) else -1))) (M) := by
  refine q_Ev.ofW rfl ?_
  show q_Wp X _ 46 (0, [some (.ref 0), some (.int i), some (.int x)], [], M) _
  refine q_Wp.gd 1 (i < 0) (c1 := (13, [some (.ref 0), some (.int i), some (.int x)], [], M)) (c2 := (4, [some (.ref 0), some (.int i), some (.int x)], [], M)) rfl (fun h1 => ?_) (fun h1 => ?_)
  · -- t
    refine q_Wp.gn 0 (c' := (14, [some (.ref 0), some (.int i), some (.int x)], [.int (-1)], M)) rfl ?_
    exact q_Wp.rt rfl rfl ⟨by simp_all, by rfl⟩
  · -- f
    obtain ⟨k, hk, rfl⟩ := nI_of h1
    have hck : (nI k).toNatClampNeg = k := nI_clamp hk
    refine q_Wp.gc 3 (mj := 55) (as := [.int x, .int 0, .int 1]) (pc := 10) (ls := [some (.ref 0), some (.int (nI k)), some (.int x)]) (st := []) (M := M) (r1 := some (.int (q_b (s_in x 0 1)))) (M1 := M) rfl (c_isWithin X (d + 1) x 0 1 M) ?_
    show q_Wp X _ 46 (10, [some (.ref 0), some (.int (nI k)), some (.int x)], [.int (q_b (s_in x 0 1))], M) _
    refine q_Wp.gn0 0 (b := (s_in x 0 1)) (c1 := (15, [some (.ref 0), some (.int (nI k)), some (.int x)], [], M)) (c2 := (13, [some (.ref 0), some (.int (nI k)), some (.int x)], [], M)) rfl (fun h2 => ?_) (fun h2 => ?_)
    · -- ft
      refine q_Wp.gn 2 (c' := (22, [some (.ref 0), some (.int (nI k)), some (.int x)], [.int (M.1 23 0)], M)) rfl ?_
      refine q_Wp.cv (c' := (22, [some (.ref 0), some (.int (nI k)), some (.int x)], [.int 1], M)) (by first | rw [hon] | simp only [hon]) ?_
      refine q_Wp.gn 4 (c' := (36, [some (.ref 0), some (.int (nI k)), some (.int x)], [.int (M.1 23 2), .int (nI k)], M)) rfl ?_
      refine q_Wp.cv (c' := (36, [some (.ref 0), some (.int (nI k)), some (.int x)], [.int (nI t), .int (nI k)], M)) (by first | rw [hT] | simp only [hT]) ?_
      refine q_Wp.gd 0 ((nI t) ≤ (nI k)) (c1 := (45, [some (.ref 0), some (.int (nI k)), some (.int x)], [], M)) (c2 := (39, [some (.ref 0), some (.int (nI k)), some (.int x)], [], M)) rfl (fun h3 => ?_) (fun h3 => ?_)
      · -- ftt
        have h3 : t ≤ k := (nI_leI (a := t) (b := k) (by omega) (by omega)).mp h3
        refine q_Wp.gn 0 (c' := (46, [some (.ref 0), some (.int (nI k)), some (.int x)], [.int (-1)], M)) rfl ?_
        exact q_Wp.rt rfl rfl ⟨by simp_all, by rfl⟩
      · -- ftf
        have h3 : ¬ t ≤ k := fun z => h3 ((nI_leI (a := t) (b := k) (by omega) (by omega)).mpr z)
        refine q_Wp.gd 2 ((nI k) < 6) (c1 := (47, [some (.ref 0), some (.int (nI k)), some (.int x)], [], M)) (c2 := (45, [some (.ref 0), some (.int (nI k)), some (.int x)], [], M)) rfl (fun h4 => ?_) (fun h4 => ?_)
        · -- ftft
          have h4 : k < 6 := (nI_ltI (a := k) (b := 6) (by omega) (by omega)).mp h4
          refine q_Wp.gd 1 (¬ x = 0) (c1 := (63, [some (.ref 0), some (.int (nI k)), some (.int x)], [], M)) (c2 := (51, [some (.ref 0), some (.int (nI k)), some (.int x)], [], M)) rfl (fun h5 => ?_) (fun h5 => ?_)
          · -- ftftt
            skip
            refine q_Wp.gn 3 (c' := (71, [some (.ref 0), some (.int (nI k)), some (.int x)], [.int (nI k), .ref 25], M)) rfl ?_
            refine q_Wp.zld (i := k) rfl (rfl) rfl (by omega) (by decide) ?_
            show q_Wp X _ 46 (72, [some (.ref 0), some (.int (nI k)), some (.int x)], [.int (M.1 25 k)], M) _
            refine q_Wp.cv (c' := (72, [some (.ref 0), some (.int (nI k)), some (.int x)], [.int (q_b (rg k))], M)) (by first | rw [hR k (by omega)] | simp only [hR k (by omega)]) ?_
            refine q_Wp.gc 0 (mj := 57) (as := [.int (q_b (rg k))]) (pc := 75) (ls := [some (.ref 0), some (.int (nI k)), some (.int x)]) (st := []) (M := M) (r1 := some (.int (q_b (rg k)))) (M1 := M) rfl (c_asNumber X (d + 1) (rg k) M) ?_
            show q_Wp X _ 46 (75, [some (.ref 0), some (.int (nI k)), some (.int x)], [.int (q_b (rg k))], M) _
            exact q_Wp.rt rfl rfl ⟨by simp_all, by rfl⟩
          · -- ftftf
            have h5 : x = 0 := Classical.byContradiction h5
            refine q_Wp.gn 3 (c' := (59, [some (.ref 0), some (.int (nI k)), some (.int x)], [.int (nI k), .ref 24], M)) rfl ?_
            refine q_Wp.ild (i := k) rfl (rfl) rfl (by omega) (by decide) ?_
            show q_Wp X _ 46 (60, [some (.ref 0), some (.int (nI k)), some (.int x)], [.int (M.1 24 k)], M) _
            refine q_Wp.cv (c' := (60, [some (.ref 0), some (.int (nI k)), some (.int x)], [.int (nI (od k))], M)) (by first | rw [hQ k (by omega)] | simp only [hQ k (by omega)]) ?_
            refine q_Wp.gn 0 (c' := (75, [some (.ref 0), some (.int (nI k)), some (.int x)], [.int (nI (od k))], M)) rfl ?_
            exact q_Wp.rt rfl rfl ⟨by simp_all, by rfl⟩
        · -- ftff
          have h4 : ¬ k < 6 := fun z => h4 ((nI_ltI (a := k) (b := 6) (by omega) (by omega)).mpr z)
          exact absurd (by omega) h4
    · -- ff
      refine q_Wp.gn 0 (c' := (14, [some (.ref 0), some (.int (nI k)), some (.int x)], [.int (-1)], M)) rfl ?_
      exact q_Wp.rt rfl rfl ⟨by simp_all, by rfl⟩

theorem c_cbf (X : q_X) (d : Nat) {n : Nat} {fa : Nat → Nat → Nat} {sh : Nat → Int32} {wn ft : Nat → Bool} {a b : Int32} (hO : ok_bank n fa) (k : Nat) (hk : k ≤ 3) (row A : Nat) (u : Nat → Nat) (M : q_M) (hr : row ≤ 6) (hA : A < 2 ^ n) (hB : x_bank n fa sh M) (hS : x_set n fa wn ft M) (hU : ∀ s, s < 6 → M.1 (27 + row) s = nI (u s)) (h1 : M.1 13 1 = a) (h2 : M.1 13 2 = b) : q_Ep X (d + 10) 53 [.ref 0, .int (nI A), .int (nI row), .int (nI k)] M (fun r M' => r = some (.int (q_b (s_rch n fa ft a b k row A u))) ∧ M'.2 = M.2 ∧ ∀ r, (r ≤ 27 + row ∨ 33 < r) → M'.1 r = M.1 r) := by
  have h := c_canBeFound X (d + (6 - 2 * k)) hO k hk row A u M hr hA hB hS hU h1 h2
  rwa [show d + (6 - 2 * k) + 2 * k + 4 = d + 10 by omega] at h
set_option maxRecDepth 10000 in
theorem c_reach_off (X : q_X) (d : Nat) (x : Int32) (M : q_M) (hon : M.1 23 0 = 0) : q_Ev X (d + 11) 47 [.ref 0, .int x] M (some (.int (if s_in x 0 3 = true then -2 else -1))) (M) := by
  refine q_Ev.ofW rfl ?_
  show q_Wp X _ 47 (0, [some (.ref 0), some (.int x)], [], M) _
  refine q_Wp.gc 3 (mj := 55) (as := [.int x, .int 0, .int 3]) (pc := 6) (ls := [some (.ref 0), some (.int x)]) (st := []) (M := M) (r1 := some (.int (q_b (s_in x 0 3)))) (M1 := M) rfl (c_isWithin X (d + 9) x 0 3 M) ?_
  show q_Wp X _ 47 (6, [some (.ref 0), some (.int x)], [.int (q_b (s_in x 0 3))], M) _
  refine q_Wp.gn0 0 (b := (s_in x 0 3)) (c1 := (11, [some (.ref 0), some (.int x)], [], M)) (c2 := (9, [some (.ref 0), some (.int x)], [], M)) rfl (fun h1 => ?_) (fun h1 => ?_)
  · -- t
    refine q_Wp.gn 2 (c' := (18, [some (.ref 0), some (.int x)], [.int (M.1 23 0)], M)) rfl ?_
    refine q_Wp.cv (c' := (18, [some (.ref 0), some (.int x)], [.int 0], M)) (by first | rw [hon] | simp only [hon]) ?_
    refine q_Wp.gn 1 (c' := (23, [some (.ref 0), some (.int x)], [.int (-2)], M)) rfl ?_
    exact q_Wp.rt rfl rfl ⟨by simp [*], by rfl⟩
  · -- f
    refine q_Wp.gn 0 (c' := (10, [some (.ref 0), some (.int x)], [.int (-1)], M)) rfl ?_
    exact q_Wp.rt rfl rfl ⟨by simp [*], by rfl⟩

set_option maxRecDepth 10000 in
theorem c_reach_on (X : q_X) (d : Nat) {n A t : Nat} {fa : Nat → Nat → Nat} {wn ft : Nat → Bool} {sh : Nat → Int32} {a b : Int32} {u : Nat → Nat} (hO : ok_bank n fa) (hA : A < 2 ^ n) (ht : t ≤ 6) (x : Int32) (M : q_M) (hB : x_bank n fa sh M) (hon : M.1 23 0 = 1) (hs : x_set n fa wn ft M) (hAM : M.1 23 3 = nI A) (hT : M.1 23 2 = nI t) (hU : ∀ s, s < 6 → M.1 (27 + t) s = nI (u s)) (h11 : M.1 13 1 = a) (h12 : M.1 13 2 = b) : q_Ep X (d + 11) 47 [.ref 0, .int x] M (fun r M' => r = some (.int (if s_in x 0 3 = true then q_b (s_rch n fa ft a b x.toNatClampNeg t A u) else -1)) ∧ ∀ r, (r ≤ 27 + t ∨ 33 < r) → M'.1 r = M.1 r) := by
  refine q_Ep.ofW rfl ?_
  show q_Wp X _ 47 (0, [some (.ref 0), some (.int x)], [], M) _
  refine q_Wp.gc 3 (mj := 55) (as := [.int x, .int 0, .int 3]) (pc := 6) (ls := [some (.ref 0), some (.int x)]) (st := []) (M := M) (r1 := some (.int (q_b (s_in x 0 3)))) (M1 := M) rfl (c_isWithin X (d + 9) x 0 3 M) ?_
  show q_Wp X _ 47 (6, [some (.ref 0), some (.int x)], [.int (q_b (s_in x 0 3))], M) _
  refine q_Wp.gn0 0 (b := (s_in x 0 3)) (c1 := (11, [some (.ref 0), some (.int x)], [], M)) (c2 := (9, [some (.ref 0), some (.int x)], [], M)) rfl (fun h1 => ?_) (fun h1 => ?_)
  · -- t
    obtain ⟨k, -, hk, rfl⟩ := s_in_inv (a := 0) (b := 3) (by decide) (by decide) h1
    have hck : (nI k).toNatClampNeg = k := nI_clamp (by omega)
    refine q_Wp.gn 2 (c' := (18, [some (.ref 0), some (.int (nI k))], [.int (M.1 23 0)], M)) rfl ?_
    refine q_Wp.cv (c' := (18, [some (.ref 0), some (.int (nI k))], [.int 1], M)) (by first | rw [hon] | simp only [hon]) ?_
    refine q_Wp.gn 4 (c' := (32, [some (.ref 0), some (.int (nI k))], [.int (M.1 23 3), .ref 0], M)) rfl ?_
    refine q_Wp.cv (c' := (32, [some (.ref 0), some (.int (nI k))], [.int (nI A), .ref 0], M)) (by first | rw [hAM] | simp only [hAM]) ?_
    refine q_Wp.gn 2 (c' := (39, [some (.ref 0), some (.int (nI k))], [.int (M.1 23 2), .int (nI A), .ref 0], M)) rfl ?_
    refine q_Wp.cv (c' := (39, [some (.ref 0), some (.int (nI k))], [.int (nI t), .int (nI A), .ref 0], M)) (by first | rw [hT] | simp only [hT]) ?_
    refine q_Wp.gp 1 (mj := 53) (as := [.ref 0, .int (nI A), .int (nI t), .int (nI k)]) (pc := 43) (ls := [some (.ref 0), some (.int (nI k))]) (st := []) (M := M) rfl (c_cbf X d (n := n) (fa := fa) (sh := sh) (wn := wn) (ft := ft) (a := a) (b := b) hO k (by omega) t A u M ht hA hB hs hU h11 h12) (fun r2 M3 hp4 => ?_)
    obtain ⟨rfl, g1, g2⟩ := hp4
    show q_Wp X _ 47 (43, [some (.ref 0), some (.int (nI k))], [.int (q_b (s_rch n fa ft a b k t A u))], M3) _
    refine q_Wp.gc 0 (mj := 57) (as := [.int (q_b (s_rch n fa ft a b k t A u))]) (pc := 46) (ls := [some (.ref 0), some (.int (nI k))]) (st := []) (M := M3) (r1 := some (.int (q_b (s_rch n fa ft a b k t A u)))) (M1 := M3) rfl (c_asNumber X (d + 9) (s_rch n fa ft a b k t A u) M3) ?_
    show q_Wp X _ 47 (46, [some (.ref 0), some (.int (nI k))], [.int (q_b (s_rch n fa ft a b k t A u))], M3) _
    refine q_Wp.rt rfl rfl ?_
    exact ⟨by rw [hck, if_pos h1], g2⟩
  · -- f
    refine q_Wp.gn 0 (c' := (10, [some (.ref 0), some (.int x)], [.int (-1)], M)) rfl ?_
    refine q_Wp.rt rfl rfl ?_
    exact ⟨by rw [if_neg (by rw [h1]; decide)], fun _ _ => rfl⟩

def s_c9 (x v0 v1 v2 v3 v4 v5 v6 v7 v8 : Int32) : Int32 := if x = 0 then v0 else if x = 1 then v1 else if x = 2 then v2 else if x = 3 then v3 else if x = 4 then v4 else if x = 5 then v5 else if x = 6 then v6 else if x = 7 then v7 else if x = 8 then v8 else -1
set_option maxRecDepth 10000 in
theorem c_count_off (X : q_X) (d : Nat) {n : Nat} (x : Int32) (M : q_M) (hsz : M.1 1 0 = nI n) (hon : M.1 23 0 = 0) : q_Ev X (d + 5) 48 [.ref 0, .int x] M (some (.int (s_c9 x (nI n) (M.1 13 0) 0 0 (M.1 23 1) 0 (M.1 13 1) (M.1 13 2) 0))) (M) := by
  refine q_Ev.ofW rfl ?_
  show q_Wp X _ 48 (0, [some (.ref 0), some (.int x)], [], M) _
  refine q_Wp.gn 0 (c' := (1, [some (.ref 0), some (.int x)], [.int x], M)) rfl ?_
  by_cases h1_0 : x = 0
  · -- 0
    subst h1_0
    refine q_Wp.gn 0 (c' := (52, [some (.ref 0), some (.int 0)], [], M)) rfl ?_
    refine q_Wp.gn 2 (c' := (59, [some (.ref 0), some (.int 0)], [.int (M.1 1 0)], M)) rfl ?_
    refine q_Wp.cv (c' := (59, [some (.ref 0), some (.int 0)], [.int (nI n)], M)) (by first | rw [hsz] | simp only [hsz]) ?_
    exact q_Wp.rt rfl rfl ⟨by simp [s_c9, *], by rfl⟩
  by_cases h1_1 : x = 1
  · -- 1
    subst h1_1
    refine q_Wp.gn 0 (c' := (60, [some (.ref 0), some (.int 1)], [], M)) rfl ?_
    refine q_Wp.gn 2 (c' := (67, [some (.ref 0), some (.int 1)], [.int (M.1 13 0)], M)) rfl ?_
    exact q_Wp.rt rfl rfl ⟨by simp [s_c9, *], by rfl⟩
  by_cases h1_2 : x = 2
  · -- 2
    subst h1_2
    refine q_Wp.gn 0 (c' := (68, [some (.ref 0), some (.int 2)], [], M)) rfl ?_
    refine q_Wp.gn 2 (c' := (75, [some (.ref 0), some (.int 2)], [.int (M.1 23 0)], M)) rfl ?_
    refine q_Wp.cv (c' := (75, [some (.ref 0), some (.int 2)], [.int 0], M)) (by first | rw [hon] | simp only [hon]) ?_
    refine q_Wp.gc 0 (mj := 57) (as := [.int 0]) (pc := 78) (ls := [some (.ref 0), some (.int 2)]) (st := []) (M := M) (r1 := some (.int 0)) (M1 := M) rfl (c_asNumber X (d + 3) false M) ?_
    show q_Wp X _ 48 (78, [some (.ref 0), some (.int 2)], [.int 0], M) _
    exact q_Wp.rt rfl rfl ⟨by simp [s_c9, *], by rfl⟩
  by_cases h1_3 : x = 3
  · -- 3
    subst h1_3
    refine q_Wp.gn 0 (c' := (79, [some (.ref 0), some (.int 3)], [], M)) rfl ?_
    refine q_Wp.gn 2 (c' := (86, [some (.ref 0), some (.int 3)], [.int (M.1 23 0)], M)) rfl ?_
    refine q_Wp.cv (c' := (86, [some (.ref 0), some (.int 3)], [.int 0], M)) (by first | rw [hon] | simp only [hon]) ?_
    refine q_Wp.gn 1 (c' := (100, [some (.ref 0), some (.int 3)], [.int 0], M)) rfl ?_
    exact q_Wp.rt rfl rfl ⟨by simp [s_c9, *], by rfl⟩
  by_cases h1_4 : x = 4
  · -- 4
    subst h1_4
    refine q_Wp.gn 0 (c' := (101, [some (.ref 0), some (.int 4)], [], M)) rfl ?_
    refine q_Wp.gn 2 (c' := (108, [some (.ref 0), some (.int 4)], [.int (M.1 23 1)], M)) rfl ?_
    exact q_Wp.rt rfl rfl ⟨by simp [s_c9, *], by rfl⟩
  by_cases h1_5 : x = 5
  · -- 5
    subst h1_5
    refine q_Wp.gn 0 (c' := (109, [some (.ref 0), some (.int 5)], [], M)) rfl ?_
    refine q_Wp.gn 2 (c' := (116, [some (.ref 0), some (.int 5)], [.int (M.1 23 0)], M)) rfl ?_
    refine q_Wp.cv (c' := (116, [some (.ref 0), some (.int 5)], [.int 0], M)) (by first | rw [hon] | simp only [hon]) ?_
    refine q_Wp.gn 1 (c' := (130, [some (.ref 0), some (.int 5)], [.int 0], M)) rfl ?_
    exact q_Wp.rt rfl rfl ⟨by simp [s_c9, *], by rfl⟩
  by_cases h1_6 : x = 6
  · -- 6
    subst h1_6
    refine q_Wp.gn 0 (c' := (131, [some (.ref 0), some (.int 6)], [], M)) rfl ?_
    refine q_Wp.gn 2 (c' := (138, [some (.ref 0), some (.int 6)], [.int (M.1 13 1)], M)) rfl ?_
    exact q_Wp.rt rfl rfl ⟨by simp [s_c9, *], by rfl⟩
  by_cases h1_7 : x = 7
  · -- 7
    subst h1_7
    refine q_Wp.gn 0 (c' := (139, [some (.ref 0), some (.int 7)], [], M)) rfl ?_
    refine q_Wp.gn 2 (c' := (146, [some (.ref 0), some (.int 7)], [.int (M.1 13 2)], M)) rfl ?_
    exact q_Wp.rt rfl rfl ⟨by simp [s_c9, *], by rfl⟩
  by_cases h1_8 : x = 8
  · -- 8
    subst h1_8
    refine q_Wp.gn 0 (c' := (147, [some (.ref 0), some (.int 8)], [], M)) rfl ?_
    refine q_Wp.gn 2 (c' := (154, [some (.ref 0), some (.int 8)], [.int (M.1 23 0)], M)) rfl ?_
    refine q_Wp.cv (c' := (154, [some (.ref 0), some (.int 8)], [.int 0], M)) (by first | rw [hon] | simp only [hon]) ?_
    refine q_Wp.gn 1 (c' := (171, [some (.ref 0), some (.int 8)], [.int 0], M)) rfl ?_
    exact q_Wp.rt rfl rfl ⟨by simp [s_c9, *], by rfl⟩
  refine q_Wp.sw (dd := 171) (lo := 0) (hi := 8) (os := #[51, 59, 67, 78, 100, 108, 130, 138, 146]) (ex := 51) (t := 172) rfl rfl (q_sw9 h1_0 h1_1 h1_2 h1_3 h1_4 h1_5 h1_6 h1_7 h1_8) ?_
  refine q_Wp.gn 0 (c' := (173, [some (.ref 0), some (.int x)], [.int (-1)], M)) rfl ?_
  exact q_Wp.rt rfl rfl ⟨by simp [s_c9, *], by rfl⟩

set_option maxRecDepth 10000 in
theorem c_count_on (X : q_X) (d : Nat) {n A t : Nat} {fa : Nat → Nat → Nat} {wn ft : Nat → Bool} (hn : n ≤ 10) (hA : A < 2 ^ n) (ht : t ≤ 6) (x : Int32) (M : q_M) (hsz : M.1 1 0 = nI n) (hon : M.1 23 0 = 1) (hs : x_set n fa wn ft M) (hAM : M.1 23 3 = nI A) (hT : M.1 23 2 = nI t) : q_Ev X (d + 5) 48 [.ref 0, .int x] M (some (.int (s_c9 x (nI n) (M.1 13 0) 1 (nI t) (M.1 23 1) (s_bc (nI (s_xm n fa ft A))) (M.1 13 1) (M.1 13 2) (s_sum (M.1 (27 + t)))))) (M) := by
  refine q_Ev.ofW rfl ?_
  show q_Wp X _ 48 (0, [some (.ref 0), some (.int x)], [], M) _
  refine q_Wp.gn 0 (c' := (1, [some (.ref 0), some (.int x)], [.int x], M)) rfl ?_
  by_cases h1_0 : x = 0
  · -- 0
    subst h1_0
    refine q_Wp.gn 0 (c' := (52, [some (.ref 0), some (.int 0)], [], M)) rfl ?_
    refine q_Wp.gn 2 (c' := (59, [some (.ref 0), some (.int 0)], [.int (M.1 1 0)], M)) rfl ?_
    refine q_Wp.cv (c' := (59, [some (.ref 0), some (.int 0)], [.int (nI n)], M)) (by first | rw [hsz] | simp only [hsz]) ?_
    exact q_Wp.rt rfl rfl ⟨by simp [s_c9, *], by rfl⟩
  by_cases h1_1 : x = 1
  · -- 1
    subst h1_1
    refine q_Wp.gn 0 (c' := (60, [some (.ref 0), some (.int 1)], [], M)) rfl ?_
    refine q_Wp.gn 2 (c' := (67, [some (.ref 0), some (.int 1)], [.int (M.1 13 0)], M)) rfl ?_
    exact q_Wp.rt rfl rfl ⟨by simp [s_c9, *], by rfl⟩
  by_cases h1_2 : x = 2
  · -- 2
    subst h1_2
    refine q_Wp.gn 0 (c' := (68, [some (.ref 0), some (.int 2)], [], M)) rfl ?_
    refine q_Wp.gn 2 (c' := (75, [some (.ref 0), some (.int 2)], [.int (M.1 23 0)], M)) rfl ?_
    refine q_Wp.cv (c' := (75, [some (.ref 0), some (.int 2)], [.int 1], M)) (by first | rw [hon] | simp only [hon]) ?_
    refine q_Wp.gc 0 (mj := 57) (as := [.int 1]) (pc := 78) (ls := [some (.ref 0), some (.int 2)]) (st := []) (M := M) (r1 := some (.int 1)) (M1 := M) rfl (c_asNumber X (d + 3) true M) ?_
    show q_Wp X _ 48 (78, [some (.ref 0), some (.int 2)], [.int 1], M) _
    exact q_Wp.rt rfl rfl ⟨by simp [s_c9, *], by rfl⟩
  by_cases h1_3 : x = 3
  · -- 3
    subst h1_3
    refine q_Wp.gn 0 (c' := (79, [some (.ref 0), some (.int 3)], [], M)) rfl ?_
    refine q_Wp.gn 2 (c' := (86, [some (.ref 0), some (.int 3)], [.int (M.1 23 0)], M)) rfl ?_
    refine q_Wp.cv (c' := (86, [some (.ref 0), some (.int 3)], [.int 1], M)) (by first | rw [hon] | simp only [hon]) ?_
    refine q_Wp.gn 3 (c' := (96, [some (.ref 0), some (.int 3)], [.int (M.1 23 2)], M)) rfl ?_
    refine q_Wp.cv (c' := (96, [some (.ref 0), some (.int 3)], [.int (nI t)], M)) (by first | rw [hT] | simp only [hT]) ?_
    refine q_Wp.gn 0 (c' := (100, [some (.ref 0), some (.int 3)], [.int (nI t)], M)) rfl ?_
    exact q_Wp.rt rfl rfl ⟨by simp [s_c9, *], by rfl⟩
  by_cases h1_4 : x = 4
  · -- 4
    subst h1_4
    refine q_Wp.gn 0 (c' := (101, [some (.ref 0), some (.int 4)], [], M)) rfl ?_
    refine q_Wp.gn 2 (c' := (108, [some (.ref 0), some (.int 4)], [.int (M.1 23 1)], M)) rfl ?_
    exact q_Wp.rt rfl rfl ⟨by simp [s_c9, *], by rfl⟩
  by_cases h1_5 : x = 5
  · -- 5
    subst h1_5
    refine q_Wp.gn 0 (c' := (109, [some (.ref 0), some (.int 5)], [], M)) rfl ?_
    refine q_Wp.gn 2 (c' := (116, [some (.ref 0), some (.int 5)], [.int (M.1 23 0)], M)) rfl ?_
    refine q_Wp.cv (c' := (116, [some (.ref 0), some (.int 5)], [.int 1], M)) (by first | rw [hon] | simp only [hon]) ?_
    refine q_Wp.gc 2 (mj := 49) (as := [.ref 0]) (pc := 123) (ls := [some (.ref 0), some (.int 5)]) (st := []) (M := M) (r1 := some (.int (nI (s_xm n fa ft A)))) (M1 := M) rfl (c_askable X d (n := n) (A := A) (fa := fa) (wn := wn) (ft := ft) hn hA M hs hAM) ?_
    show q_Wp X _ 48 (123, [some (.ref 0), some (.int 5)], [.int (nI (s_xm n fa ft A))], M) _
    refine q_Wp.gc 0 (mj := 110) (as := [.int (nI (s_xm n fa ft A))]) (pc := 126) (ls := [some (.ref 0), some (.int 5)]) (st := []) (M := M) (r1 := some (.int (s_bc (nI (s_xm n fa ft A))))) (M1 := M) rfl (c_bitCount X (d + 3) (nI (s_xm n fa ft A)) M) ?_
    show q_Wp X _ 48 (126, [some (.ref 0), some (.int 5)], [.int (s_bc (nI (s_xm n fa ft A)))], M) _
    refine q_Wp.gn 0 (c' := (130, [some (.ref 0), some (.int 5)], [.int (s_bc (nI (s_xm n fa ft A)))], M)) rfl ?_
    exact q_Wp.rt rfl rfl ⟨by simp [s_c9, *], by rfl⟩
  by_cases h1_6 : x = 6
  · -- 6
    subst h1_6
    refine q_Wp.gn 0 (c' := (131, [some (.ref 0), some (.int 6)], [], M)) rfl ?_
    refine q_Wp.gn 2 (c' := (138, [some (.ref 0), some (.int 6)], [.int (M.1 13 1)], M)) rfl ?_
    exact q_Wp.rt rfl rfl ⟨by simp [s_c9, *], by rfl⟩
  by_cases h1_7 : x = 7
  · -- 7
    subst h1_7
    refine q_Wp.gn 0 (c' := (139, [some (.ref 0), some (.int 7)], [], M)) rfl ?_
    refine q_Wp.gn 2 (c' := (146, [some (.ref 0), some (.int 7)], [.int (M.1 13 2)], M)) rfl ?_
    exact q_Wp.rt rfl rfl ⟨by simp [s_c9, *], by rfl⟩
  by_cases h1_8 : x = 8
  · -- 8
    subst h1_8
    refine q_Wp.gn 0 (c' := (147, [some (.ref 0), some (.int 8)], [], M)) rfl ?_
    refine q_Wp.gn 2 (c' := (154, [some (.ref 0), some (.int 8)], [.int (M.1 23 0)], M)) rfl ?_
    refine q_Wp.cv (c' := (154, [some (.ref 0), some (.int 8)], [.int 1], M)) (by first | rw [hon] | simp only [hon]) ?_
    refine q_Wp.gc 3 (mj := 23) (as := [.ref 23]) (pc := 164) (ls := [some (.ref 0), some (.int 8)]) (st := []) (M := M) (r1 := some (.ref (27 + t))) (M1 := M) rfl (c_weights X (d + 1) (by omega) M hT) ?_
    show q_Wp X _ 48 (164, [some (.ref 0), some (.int 8)], [.ref (27 + t)], M) _
    refine q_Wp.gc 0 (mj := 59) (as := [.ref (27 + t)]) (pc := 167) (ls := [some (.ref 0), some (.int 8)]) (st := []) (M := M) (r1 := some (.int (s_sum (M.1 (27 + t))))) (M1 := M) rfl (c_sumOf X (d + 3) (q_kd_rows (q := t) (by omega)) M) ?_
    show q_Wp X _ 48 (167, [some (.ref 0), some (.int 8)], [.int (s_sum (M.1 (27 + t)))], M) _
    refine q_Wp.gn 0 (c' := (171, [some (.ref 0), some (.int 8)], [.int (s_sum (M.1 (27 + t)))], M)) rfl ?_
    exact q_Wp.rt rfl rfl ⟨by simp [s_c9, *], by rfl⟩
  refine q_Wp.sw (dd := 171) (lo := 0) (hi := 8) (os := #[51, 59, 67, 78, 100, 108, 130, 138, 146]) (ex := 51) (t := 172) rfl rfl (q_sw9 h1_0 h1_1 h1_2 h1_3 h1_4 h1_5 h1_6 h1_7 h1_8) ?_
  refine q_Wp.gn 0 (c' := (173, [some (.ref 0), some (.int x)], [.int (-1)], M)) rfl ?_
  exact q_Wp.rt rfl rfl ⟨by simp [s_c9, *], by rfl⟩

