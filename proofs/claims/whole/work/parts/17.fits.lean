/-! Contracts: finding the sets that fit (by program: wip/whole/c17.py) -/
def s_clr (M : q_M) : q_M := q_up (q_up (q_up (q_up (q_up (q_up (q_up (q_up (q_up (q_up (q_up M 17 1 0) 17 2 0) 18 0 0) 19 0 0) 18 1 0) 19 1 0) 18 2 0) 19 2 0) 20 0 0) 20 1 0) 20 2 0
set_option maxRecDepth 10000 in
theorem c_clear (X : q_X) (d : Nat)  (M : q_M) : q_Ev X (d + 1) 16 [.ref 17] M (none) (s_clr M) := by
  refine q_Ev.ofW rfl ?_
  show q_Wp X _ 16 (0, [some (.ref 17), none], [], M) _
  refine q_Wp.gn 90 (c' := (57, [some (.ref 17), some (.int 3)], [], q_up (q_up (q_up (q_up (q_up (q_up (q_up (q_up (q_up (q_up (q_up M 17 1 0) 17 2 0) 18 0 0) 19 0 0) 18 1 0) 19 1 0) 18 2 0) 19 2 0) 20 0 0) 20 1 0) 20 2 0)) rfl ?_
  exact q_Wp.rt rfl rfl ⟨by rfl, by rfl⟩

/-- the masks have been sorted up to i -/
def s_sorted (fa : Nat → Nat → Nat) (wn : Nat → Bool) (i : Nat) (M : q_M) : Prop :=
  M.1 17 1 = nI (s_mk i (fun q => decide (fa q 0 = 3))) ∧ M.1 17 2 = nI (s_mk i wn) ∧
  (∀ g, g < 3 → M.1 18 g = nI (s_mk i (fun q => decide (fa q 0 = 1) && decide (fa q 1 = g)))) ∧
  (∀ g, g < 3 → M.1 19 g = nI (s_mk i (fun q => decide (fa q 0 = 2) && decide (fa q 1 = g)))) ∧
  (∀ c, c < 3 → M.1 20 c = nI (s_mk i (fun q => decide (fa q 2 = c))))
theorem s_mk_or {i : Nat} {p : Nat → Bool} {x : Int32} (h : x = nI (s_mk i p)) (hp : p i = true) : x ||| nI (2 ^ i) = nI (s_mk (i + 1) p) := by
  rw [h, s_or, s_orp (s_mk_lt p i), s_mk, if_pos hp]
theorem s_mk_no {i : Nat} {p : Nat → Bool} {x : Int32} (h : x = nI (s_mk i p)) (hp : p i = false) : x = nI (s_mk (i + 1) p) := by
  rw [h, s_mk, if_neg (by rw [hp]; decide), Nat.add_zero]
set_option maxRecDepth 10000 in
theorem c_sortOne (X : q_X) (d : Nat) {k : Nat} {fa : Nat → Nat → Nat} {wn : Nat → Bool} (hk : k < 10) (M : q_M) (h0 : M.1 (3 + k) 0 = nI (fa k 0)) (h0r : fa k 0 < 5) (h1 : M.1 (3 + k) 1 = nI (fa k 1)) (h1r : fa k 1 < 3) (h2 : M.1 (3 + k) 2 = nI (fa k 2)) (h2r : fa k 2 < 3) (hwn : wn k = decide (M.1 (3 + k) 3 ≤ M.1 (3 + k) 4)) (hso : s_sorted fa wn k M) : q_Ep X (d + 2) 17 [.ref 17, .ref (3 + k), .int (nI (2 ^ k))] M (fun r M' => r = none ∧ M'.2 = M.2 ∧ (∀ r, r < 17 ∨ 20 < r → M'.1 r = M.1 r) ∧ M'.1 17 0 = M.1 17 0 ∧ s_sorted fa wn (k + 1) M') := by
  refine q_Ep.ofW rfl ?_
  show q_Wp X _ 17 (0, [some (.ref 17), some (.ref (3 + k)), some (.int (nI (2 ^ k))), none, none], [], M) _
  have e1 : s_in (nI (fa k 1)) 0 2 = true := s_in_ok (b := 0) (c := 2) (by omega) (by omega) (by omega)
  have e2 : s_in (nI (fa k 2)) 0 2 = true := s_in_ok (b := 0) (c := 2) (by omega) (by omega) (by omega)
  refine q_Wp.gn 1 (c' := (2, [some (.ref 17), some (.ref (3 + k)), some (.int (nI (2 ^ k))), none, none], [.int 1, .ref (3 + k)], M)) rfl ?_
  refine q_Wp.ild (i := 1) rfl (q_kd_bank hk) rfl (by decide) (by decide) ?_
  show q_Wp X _ 17 (3, [some (.ref 17), some (.ref (3 + k)), some (.int (nI (2 ^ k))), none, none], [.int (M.1 (3 + k) 1)], M) _
  refine q_Wp.cv (c' := (3, [some (.ref 17), some (.ref (3 + k)), some (.int (nI (2 ^ k))), none, none], [.int (nI (fa k 1))], M)) (by first | rw [h1] | simp only [h1]) ?_
  refine q_Wp.gn 2 (c' := (6, [some (.ref 17), some (.ref (3 + k)), some (.int (nI (2 ^ k))), some (.int (nI (fa k 1))), none], [.int 2, .ref (3 + k)], M)) rfl ?_
  refine q_Wp.ild (i := 2) rfl (q_kd_bank hk) rfl (by decide) (by decide) ?_
  show q_Wp X _ 17 (7, [some (.ref 17), some (.ref (3 + k)), some (.int (nI (2 ^ k))), some (.int (nI (fa k 1))), none], [.int (M.1 (3 + k) 2)], M) _
  refine q_Wp.cv (c' := (7, [some (.ref 17), some (.ref (3 + k)), some (.int (nI (2 ^ k))), some (.int (nI (fa k 1))), none], [.int (nI (fa k 2))], M)) (by first | rw [h2] | simp only [h2]) ?_
  refine q_Wp.gc 4 (mj := 55) (as := [.int (nI (fa k 1)), .int 0, .int 2]) (pc := 15) (ls := [some (.ref 17), some (.ref (3 + k)), some (.int (nI (2 ^ k))), some (.int (nI (fa k 1))), some (.int (nI (fa k 2)))]) (st := []) (M := M) (r1 := some (.int (q_b (s_in (nI (fa k 1)) 0 2)))) (M1 := M) rfl (c_isWithin X d (nI (fa k 1)) 0 2 M) ?_
  show q_Wp X _ 17 (15, [some (.ref 17), some (.ref (3 + k)), some (.int (nI (2 ^ k))), some (.int (nI (fa k 1))), some (.int (nI (fa k 2)))], [.int (q_b (s_in (nI (fa k 1)) 0 2))], M) _
  refine q_Wp.cv (c' := (15, [some (.ref 17), some (.ref (3 + k)), some (.int (nI (2 ^ k))), some (.int (nI (fa k 1))), some (.int (nI (fa k 2)))], [.int 1], M)) (by first | rw [e1, q_bt] | simp only [e1, q_bt]) ?_
  refine q_Wp.gc 4 (mj := 55) (as := [.int (nI (fa k 2)), .int 0, .int 2]) (pc := 25) (ls := [some (.ref 17), some (.ref (3 + k)), some (.int (nI (2 ^ k))), some (.int (nI (fa k 1))), some (.int (nI (fa k 2)))]) (st := []) (M := M) (r1 := some (.int (q_b (s_in (nI (fa k 2)) 0 2)))) (M1 := M) rfl (c_isWithin X d (nI (fa k 2)) 0 2 M) ?_
  show q_Wp X _ 17 (25, [some (.ref 17), some (.ref (3 + k)), some (.int (nI (2 ^ k))), some (.int (nI (fa k 1))), some (.int (nI (fa k 2)))], [.int (q_b (s_in (nI (fa k 2)) 0 2))], M) _
  refine q_Wp.cv (c' := (25, [some (.ref 17), some (.ref (3 + k)), some (.int (nI (2 ^ k))), some (.int (nI (fa k 1))), some (.int (nI (fa k 2)))], [.int 1], M)) (by first | rw [e2, q_bt] | simp only [e2, q_bt]) ?_
  refine q_Wp.gn 4 (c' := (36, [some (.ref 17), some (.ref (3 + k)), some (.int (nI (2 ^ k))), some (.int (nI (fa k 1))), some (.int (nI (fa k 2)))], [.int (nI (fa k 2)), .ref 20, .int (nI (fa k 2)), .ref 20], M)) rfl ?_
  refine q_Wp.ild (i := (fa k 2)) rfl (rfl) rfl (by omega) (by decide) ?_
  show q_Wp X _ 17 (37, [some (.ref 17), some (.ref (3 + k)), some (.int (nI (2 ^ k))), some (.int (nI (fa k 1))), some (.int (nI (fa k 2)))], [.int (M.1 20 (fa k 2)), .int (nI (fa k 2)), .ref 20], M) _
  refine q_Wp.gn 1 (c' := (39, [some (.ref 17), some (.ref (3 + k)), some (.int (nI (2 ^ k))), some (.int (nI (fa k 1))), some (.int (nI (fa k 2)))], [.int ((M.1 20 (fa k 2)) ||| (nI (2 ^ k))), .int (nI (fa k 2)), .ref 20], M)) rfl ?_
  refine q_Wp.ist (i := (fa k 2)) rfl (rfl) rfl (by omega) (by decide) ?_
  show q_Wp X _ 17 (40, [some (.ref 17), some (.ref (3 + k)), some (.int (nI (2 ^ k))), some (.int (nI (fa k 1))), some (.int (nI (fa k 2)))], [], q_up M 20 (fa k 2) ((M.1 20 (fa k 2)) ||| (nI (2 ^ k)))) _
  refine q_Wp.gn 1 (c' := (42, [some (.ref 17), some (.ref (3 + k)), some (.int (nI (2 ^ k))), some (.int (nI (fa k 1))), some (.int (nI (fa k 2)))], [.int 4, .ref (3 + k)], q_up M 20 (fa k 2) ((M.1 20 (fa k 2)) ||| (nI (2 ^ k))))) rfl ?_
  refine q_Wp.ild (i := 4) rfl (q_kd_bank hk) rfl (by decide) (by decide) ?_
  show q_Wp X _ 17 (43, [some (.ref 17), some (.ref (3 + k)), some (.int (nI (2 ^ k))), some (.int (nI (fa k 1))), some (.int (nI (fa k 2)))], [.int ((q_up M 20 (fa k 2) ((M.1 20 (fa k 2)) ||| (nI (2 ^ k)))).1 (3 + k) 4)], q_up M 20 (fa k 2) ((M.1 20 (fa k 2)) ||| (nI (2 ^ k)))) _
  refine q_Wp.cv (c' := (43, [some (.ref 17), some (.ref (3 + k)), some (.int (nI (2 ^ k))), some (.int (nI (fa k 1))), some (.int (nI (fa k 2)))], [.int (M.1 (3 + k) 4)], q_up M 20 (fa k 2) ((M.1 20 (fa k 2)) ||| (nI (2 ^ k))))) (by first | rw [q_up_ne _ _ _ (show 3 + k ≠ 20 by omega)] | simp only [q_up_ne _ _ _ (show 3 + k ≠ 20 by omega)]) ?_
  refine q_Wp.gn 1 (c' := (45, [some (.ref 17), some (.ref (3 + k)), some (.int (nI (2 ^ k))), some (.int (nI (fa k 1))), some (.int (nI (fa k 2)))], [.int 3, .ref (3 + k), .int (M.1 (3 + k) 4)], q_up M 20 (fa k 2) ((M.1 20 (fa k 2)) ||| (nI (2 ^ k))))) rfl ?_
  refine q_Wp.ild (i := 3) rfl (q_kd_bank hk) rfl (by decide) (by decide) ?_
  show q_Wp X _ 17 (46, [some (.ref 17), some (.ref (3 + k)), some (.int (nI (2 ^ k))), some (.int (nI (fa k 1))), some (.int (nI (fa k 2)))], [.int ((q_up M 20 (fa k 2) ((M.1 20 (fa k 2)) ||| (nI (2 ^ k)))).1 (3 + k) 3), .int (M.1 (3 + k) 4)], q_up M 20 (fa k 2) ((M.1 20 (fa k 2)) ||| (nI (2 ^ k)))) _
  refine q_Wp.cv (c' := (46, [some (.ref 17), some (.ref (3 + k)), some (.int (nI (2 ^ k))), some (.int (nI (fa k 1))), some (.int (nI (fa k 2)))], [.int (M.1 (3 + k) 3), .int (M.1 (3 + k) 4)], q_up M 20 (fa k 2) ((M.1 20 (fa k 2)) ||| (nI (2 ^ k))))) (by first | rw [q_up_ne _ _ _ (show 3 + k ≠ 20 by omega)] | simp only [q_up_ne _ _ _ (show 3 + k ≠ 20 by omega)]) ?_
  refine q_Wp.gd 0 ((M.1 (3 + k) 4) < (M.1 (3 + k) 3)) (c1 := (59, [some (.ref 17), some (.ref (3 + k)), some (.int (nI (2 ^ k))), some (.int (nI (fa k 1))), some (.int (nI (fa k 2)))], [], q_up M 20 (fa k 2) ((M.1 20 (fa k 2)) ||| (nI (2 ^ k))))) (c2 := (49, [some (.ref 17), some (.ref (3 + k)), some (.int (nI (2 ^ k))), some (.int (nI (fa k 1))), some (.int (nI (fa k 2)))], [], q_up M 20 (fa k 2) ((M.1 20 (fa k 2)) ||| (nI (2 ^ k))))) rfl (fun c1 => ?_) (fun c1 => ?_)
  · -- t
    refine q_Wp.gn 1 (c' := (61, [some (.ref 17), some (.ref (3 + k)), some (.int (nI (2 ^ k))), some (.int (nI (fa k 1))), some (.int (nI (fa k 2)))], [.int 0, .ref (3 + k)], q_up M 20 (fa k 2) ((M.1 20 (fa k 2)) ||| (nI (2 ^ k))))) rfl ?_
    refine q_Wp.ild (i := 0) rfl (q_kd_bank hk) rfl (by decide) (by decide) ?_
    show q_Wp X _ 17 (62, [some (.ref 17), some (.ref (3 + k)), some (.int (nI (2 ^ k))), some (.int (nI (fa k 1))), some (.int (nI (fa k 2)))], [.int ((q_up M 20 (fa k 2) ((M.1 20 (fa k 2)) ||| (nI (2 ^ k)))).1 (3 + k) 0)], q_up M 20 (fa k 2) ((M.1 20 (fa k 2)) ||| (nI (2 ^ k)))) _
    refine q_Wp.cv (c' := (62, [some (.ref 17), some (.ref (3 + k)), some (.int (nI (2 ^ k))), some (.int (nI (fa k 1))), some (.int (nI (fa k 2)))], [.int (nI (fa k 0))], q_up M 20 (fa k 2) ((M.1 20 (fa k 2)) ||| (nI (2 ^ k))))) (by first | rw [q_up_ne _ _ _ (show 3 + k ≠ 20 by omega), h0] | simp only [q_up_ne _ _ _ (show 3 + k ≠ 20 by omega), h0]) ?_
    refine q_Wp.gd 1 (¬ (nI (fa k 0)) = 1) (c1 := (79, [some (.ref 17), some (.ref (3 + k)), some (.int (nI (2 ^ k))), some (.int (nI (fa k 1))), some (.int (nI (fa k 2)))], [], q_up M 20 (fa k 2) ((M.1 20 (fa k 2)) ||| (nI (2 ^ k))))) (c2 := (66, [some (.ref 17), some (.ref (3 + k)), some (.int (nI (2 ^ k))), some (.int (nI (fa k 1))), some (.int (nI (fa k 2)))], [], q_up M 20 (fa k 2) ((M.1 20 (fa k 2)) ||| (nI (2 ^ k))))) rfl (fun c2 => ?_) (fun c2 => ?_)
    · -- tt
      have c2 : ¬ (fa k 0) = 1 := fun z => c2 ((nI_eq (a := (fa k 0)) (b := 1) (by omega) (by omega)).mpr z)
      refine q_Wp.gn 1 (c' := (81, [some (.ref 17), some (.ref (3 + k)), some (.int (nI (2 ^ k))), some (.int (nI (fa k 1))), some (.int (nI (fa k 2)))], [.int 0, .ref (3 + k)], q_up M 20 (fa k 2) ((M.1 20 (fa k 2)) ||| (nI (2 ^ k))))) rfl ?_
      refine q_Wp.ild (i := 0) rfl (q_kd_bank hk) rfl (by decide) (by decide) ?_
      show q_Wp X _ 17 (82, [some (.ref 17), some (.ref (3 + k)), some (.int (nI (2 ^ k))), some (.int (nI (fa k 1))), some (.int (nI (fa k 2)))], [.int ((q_up M 20 (fa k 2) ((M.1 20 (fa k 2)) ||| (nI (2 ^ k)))).1 (3 + k) 0)], q_up M 20 (fa k 2) ((M.1 20 (fa k 2)) ||| (nI (2 ^ k)))) _
      refine q_Wp.cv (c' := (82, [some (.ref 17), some (.ref (3 + k)), some (.int (nI (2 ^ k))), some (.int (nI (fa k 1))), some (.int (nI (fa k 2)))], [.int (nI (fa k 0))], q_up M 20 (fa k 2) ((M.1 20 (fa k 2)) ||| (nI (2 ^ k))))) (by first | rw [q_up_ne _ _ _ (show 3 + k ≠ 20 by omega), h0] | simp only [q_up_ne _ _ _ (show 3 + k ≠ 20 by omega), h0]) ?_
      refine q_Wp.gd 1 (¬ (nI (fa k 0)) = 2) (c1 := (99, [some (.ref 17), some (.ref (3 + k)), some (.int (nI (2 ^ k))), some (.int (nI (fa k 1))), some (.int (nI (fa k 2)))], [], q_up M 20 (fa k 2) ((M.1 20 (fa k 2)) ||| (nI (2 ^ k))))) (c2 := (86, [some (.ref 17), some (.ref (3 + k)), some (.int (nI (2 ^ k))), some (.int (nI (fa k 1))), some (.int (nI (fa k 2)))], [], q_up M 20 (fa k 2) ((M.1 20 (fa k 2)) ||| (nI (2 ^ k))))) rfl (fun c3 => ?_) (fun c3 => ?_)
      · -- ttt
        have c3 : ¬ (fa k 0) = 2 := fun z => c3 ((nI_eq (a := (fa k 0)) (b := 2) (by omega) (by omega)).mpr z)
        refine q_Wp.gn 1 (c' := (101, [some (.ref 17), some (.ref (3 + k)), some (.int (nI (2 ^ k))), some (.int (nI (fa k 1))), some (.int (nI (fa k 2)))], [.int 0, .ref (3 + k)], q_up M 20 (fa k 2) ((M.1 20 (fa k 2)) ||| (nI (2 ^ k))))) rfl ?_
        refine q_Wp.ild (i := 0) rfl (q_kd_bank hk) rfl (by decide) (by decide) ?_
        show q_Wp X _ 17 (102, [some (.ref 17), some (.ref (3 + k)), some (.int (nI (2 ^ k))), some (.int (nI (fa k 1))), some (.int (nI (fa k 2)))], [.int ((q_up M 20 (fa k 2) ((M.1 20 (fa k 2)) ||| (nI (2 ^ k)))).1 (3 + k) 0)], q_up M 20 (fa k 2) ((M.1 20 (fa k 2)) ||| (nI (2 ^ k)))) _
        refine q_Wp.cv (c' := (102, [some (.ref 17), some (.ref (3 + k)), some (.int (nI (2 ^ k))), some (.int (nI (fa k 1))), some (.int (nI (fa k 2)))], [.int (nI (fa k 0))], q_up M 20 (fa k 2) ((M.1 20 (fa k 2)) ||| (nI (2 ^ k))))) (by first | rw [q_up_ne _ _ _ (show 3 + k ≠ 20 by omega), h0] | simp only [q_up_ne _ _ _ (show 3 + k ≠ 20 by omega), h0]) ?_
        refine q_Wp.gd 1 (¬ (nI (fa k 0)) = 3) (c1 := (116, [some (.ref 17), some (.ref (3 + k)), some (.int (nI (2 ^ k))), some (.int (nI (fa k 1))), some (.int (nI (fa k 2)))], [], q_up M 20 (fa k 2) ((M.1 20 (fa k 2)) ||| (nI (2 ^ k))))) (c2 := (106, [some (.ref 17), some (.ref (3 + k)), some (.int (nI (2 ^ k))), some (.int (nI (fa k 1))), some (.int (nI (fa k 2)))], [], q_up M 20 (fa k 2) ((M.1 20 (fa k 2)) ||| (nI (2 ^ k))))) rfl (fun c4 => ?_) (fun c4 => ?_)
        · -- tttt
          have c4 : ¬ (fa k 0) = 3 := fun z => c4 ((nI_eq (a := (fa k 0)) (b := 3) (by omega) (by omega)).mpr z)
          refine q_Wp.rt rfl rfl ?_
          refine ⟨rfl, rfl, fun r hr => by simp only [q_up]; repeat rw [if_neg (by omega)], by simp [q_up, upd], ?_⟩
          obtain ⟨i1, i2, i3, i4, i5⟩ := hso
          refine ⟨?_, ?_, fun g hg => ?_, fun g hg => ?_, fun g hg => ?_⟩
          · exact (show _ = _ from by simp [q_up, upd] : _ = M.1 17 1).trans (s_mk_no i1 (by simp; omega))
          · exact (show _ = _ from by simp [q_up, upd] : _ = M.1 17 2).trans (s_mk_no i2 (by rw [hwn]; simpa using c1))
          · by_cases e : g = fa k 1
            · subst e; exact (show _ = _ from by simp [q_up, upd] : _ = M.1 18 (fa k 1)).trans (s_mk_no (i3 _ hg) (by simp; omega))
            · exact (show _ = _ from by simp [q_up, upd, e] : _ = M.1 18 g).trans (s_mk_no (i3 g hg) (by simp; omega))
          · by_cases e : g = fa k 1
            · subst e; exact (show _ = _ from by simp [q_up, upd] : _ = M.1 19 (fa k 1)).trans (s_mk_no (i4 _ hg) (by simp; omega))
            · exact (show _ = _ from by simp [q_up, upd, e] : _ = M.1 19 g).trans (s_mk_no (i4 g hg) (by simp; omega))
          · by_cases e : g = fa k 2
            · subst e; exact (show _ = _ from by simp [q_up, upd] : _ = M.1 20 (fa k 2) ||| nI (2 ^ k)).trans (s_mk_or (i5 _ hg) (by simp))
            · exact (show _ = _ from by simp [q_up, upd, e] : _ = M.1 20 g).trans (s_mk_no (i5 g hg) (by simp; omega))
        · -- tttf
          have c4 : (fa k 0) = 3 := (nI_eq (a := (fa k 0)) (b := 3) (by omega) (by omega)).mp (Classical.byContradiction c4)
          refine q_Wp.gn 5 (c' := (116, [some (.ref 17), some (.ref (3 + k)), some (.int (nI (2 ^ k))), some (.int (nI (fa k 1))), some (.int (nI (fa k 2)))], [], q_up (q_up M 20 (fa k 2) ((M.1 20 (fa k 2)) ||| (nI (2 ^ k)))) 17 1 ((M.1 17 1) ||| (nI (2 ^ k))))) rfl ?_
          refine q_Wp.rt rfl rfl ?_
          refine ⟨rfl, rfl, fun r hr => by simp only [q_up]; repeat rw [if_neg (by omega)], by simp [q_up, upd], ?_⟩
          obtain ⟨i1, i2, i3, i4, i5⟩ := hso
          refine ⟨?_, ?_, fun g hg => ?_, fun g hg => ?_, fun g hg => ?_⟩
          · exact (show _ = _ from by simp [q_up, upd] : _ = M.1 17 1 ||| nI (2 ^ k)).trans (s_mk_or i1 (by simp; omega))
          · exact (show _ = _ from by simp [q_up, upd] : _ = M.1 17 2).trans (s_mk_no i2 (by rw [hwn]; simpa using c1))
          · by_cases e : g = fa k 1
            · subst e; exact (show _ = _ from by simp [q_up, upd] : _ = M.1 18 (fa k 1)).trans (s_mk_no (i3 _ hg) (by simp; omega))
            · exact (show _ = _ from by simp [q_up, upd, e] : _ = M.1 18 g).trans (s_mk_no (i3 g hg) (by simp; omega))
          · by_cases e : g = fa k 1
            · subst e; exact (show _ = _ from by simp [q_up, upd] : _ = M.1 19 (fa k 1)).trans (s_mk_no (i4 _ hg) (by simp; omega))
            · exact (show _ = _ from by simp [q_up, upd, e] : _ = M.1 19 g).trans (s_mk_no (i4 g hg) (by simp; omega))
          · by_cases e : g = fa k 2
            · subst e; exact (show _ = _ from by simp [q_up, upd] : _ = M.1 20 (fa k 2) ||| nI (2 ^ k)).trans (s_mk_or (i5 _ hg) (by simp))
            · exact (show _ = _ from by simp [q_up, upd, e] : _ = M.1 20 g).trans (s_mk_no (i5 g hg) (by simp; omega))
      · -- ttf
        have c3 : (fa k 0) = 2 := (nI_eq (a := (fa k 0)) (b := 2) (by omega) (by omega)).mp (Classical.byContradiction c3)
        refine q_Wp.gn 3 (c' := (92, [some (.ref 17), some (.ref (3 + k)), some (.int (nI (2 ^ k))), some (.int (nI (fa k 1))), some (.int (nI (fa k 2)))], [.int (nI (fa k 1)), .ref 19, .int (nI (fa k 1)), .ref 19], q_up M 20 (fa k 2) ((M.1 20 (fa k 2)) ||| (nI (2 ^ k))))) rfl ?_
        refine q_Wp.ild (i := (fa k 1)) rfl (rfl) rfl (by omega) (by decide) ?_
        show q_Wp X _ 17 (93, [some (.ref 17), some (.ref (3 + k)), some (.int (nI (2 ^ k))), some (.int (nI (fa k 1))), some (.int (nI (fa k 2)))], [.int (M.1 19 (fa k 1)), .int (nI (fa k 1)), .ref 19], q_up M 20 (fa k 2) ((M.1 20 (fa k 2)) ||| (nI (2 ^ k)))) _
        refine q_Wp.gn 1 (c' := (95, [some (.ref 17), some (.ref (3 + k)), some (.int (nI (2 ^ k))), some (.int (nI (fa k 1))), some (.int (nI (fa k 2)))], [.int ((M.1 19 (fa k 1)) ||| (nI (2 ^ k))), .int (nI (fa k 1)), .ref 19], q_up M 20 (fa k 2) ((M.1 20 (fa k 2)) ||| (nI (2 ^ k))))) rfl ?_
        refine q_Wp.ist (i := (fa k 1)) rfl (rfl) rfl (by omega) (by decide) ?_
        show q_Wp X _ 17 (96, [some (.ref 17), some (.ref (3 + k)), some (.int (nI (2 ^ k))), some (.int (nI (fa k 1))), some (.int (nI (fa k 2)))], [], q_up (q_up M 20 (fa k 2) ((M.1 20 (fa k 2)) ||| (nI (2 ^ k)))) 19 (fa k 1) ((M.1 19 (fa k 1)) ||| (nI (2 ^ k)))) _
        refine q_Wp.gn 0 (c' := (116, [some (.ref 17), some (.ref (3 + k)), some (.int (nI (2 ^ k))), some (.int (nI (fa k 1))), some (.int (nI (fa k 2)))], [], q_up (q_up M 20 (fa k 2) ((M.1 20 (fa k 2)) ||| (nI (2 ^ k)))) 19 (fa k 1) ((M.1 19 (fa k 1)) ||| (nI (2 ^ k))))) rfl ?_
        refine q_Wp.rt rfl rfl ?_
        refine ⟨rfl, rfl, fun r hr => by simp only [q_up]; repeat rw [if_neg (by omega)], by simp [q_up, upd], ?_⟩
        obtain ⟨i1, i2, i3, i4, i5⟩ := hso
        refine ⟨?_, ?_, fun g hg => ?_, fun g hg => ?_, fun g hg => ?_⟩
        · exact (show _ = _ from by simp [q_up, upd] : _ = M.1 17 1).trans (s_mk_no i1 (by simp; omega))
        · exact (show _ = _ from by simp [q_up, upd] : _ = M.1 17 2).trans (s_mk_no i2 (by rw [hwn]; simpa using c1))
        · by_cases e : g = fa k 1
          · subst e; exact (show _ = _ from by simp [q_up, upd] : _ = M.1 18 (fa k 1)).trans (s_mk_no (i3 _ hg) (by simp; omega))
          · exact (show _ = _ from by simp [q_up, upd, e] : _ = M.1 18 g).trans (s_mk_no (i3 g hg) (by simp; omega))
        · by_cases e : g = fa k 1
          · subst e; exact (show _ = _ from by simp [q_up, upd] : _ = M.1 19 (fa k 1) ||| nI (2 ^ k)).trans (s_mk_or (i4 _ hg) (by simp; omega))
          · exact (show _ = _ from by simp [q_up, upd, e] : _ = M.1 19 g).trans (s_mk_no (i4 g hg) (by simp; omega))
        · by_cases e : g = fa k 2
          · subst e; exact (show _ = _ from by simp [q_up, upd] : _ = M.1 20 (fa k 2) ||| nI (2 ^ k)).trans (s_mk_or (i5 _ hg) (by simp))
          · exact (show _ = _ from by simp [q_up, upd, e] : _ = M.1 20 g).trans (s_mk_no (i5 g hg) (by simp; omega))
    · -- tf
      have c2 : (fa k 0) = 1 := (nI_eq (a := (fa k 0)) (b := 1) (by omega) (by omega)).mp (Classical.byContradiction c2)
      refine q_Wp.gn 3 (c' := (72, [some (.ref 17), some (.ref (3 + k)), some (.int (nI (2 ^ k))), some (.int (nI (fa k 1))), some (.int (nI (fa k 2)))], [.int (nI (fa k 1)), .ref 18, .int (nI (fa k 1)), .ref 18], q_up M 20 (fa k 2) ((M.1 20 (fa k 2)) ||| (nI (2 ^ k))))) rfl ?_
      refine q_Wp.ild (i := (fa k 1)) rfl (rfl) rfl (by omega) (by decide) ?_
      show q_Wp X _ 17 (73, [some (.ref 17), some (.ref (3 + k)), some (.int (nI (2 ^ k))), some (.int (nI (fa k 1))), some (.int (nI (fa k 2)))], [.int (M.1 18 (fa k 1)), .int (nI (fa k 1)), .ref 18], q_up M 20 (fa k 2) ((M.1 20 (fa k 2)) ||| (nI (2 ^ k)))) _
      refine q_Wp.gn 1 (c' := (75, [some (.ref 17), some (.ref (3 + k)), some (.int (nI (2 ^ k))), some (.int (nI (fa k 1))), some (.int (nI (fa k 2)))], [.int ((M.1 18 (fa k 1)) ||| (nI (2 ^ k))), .int (nI (fa k 1)), .ref 18], q_up M 20 (fa k 2) ((M.1 20 (fa k 2)) ||| (nI (2 ^ k))))) rfl ?_
      refine q_Wp.ist (i := (fa k 1)) rfl (rfl) rfl (by omega) (by decide) ?_
      show q_Wp X _ 17 (76, [some (.ref 17), some (.ref (3 + k)), some (.int (nI (2 ^ k))), some (.int (nI (fa k 1))), some (.int (nI (fa k 2)))], [], q_up (q_up M 20 (fa k 2) ((M.1 20 (fa k 2)) ||| (nI (2 ^ k)))) 18 (fa k 1) ((M.1 18 (fa k 1)) ||| (nI (2 ^ k)))) _
      refine q_Wp.gn 0 (c' := (116, [some (.ref 17), some (.ref (3 + k)), some (.int (nI (2 ^ k))), some (.int (nI (fa k 1))), some (.int (nI (fa k 2)))], [], q_up (q_up M 20 (fa k 2) ((M.1 20 (fa k 2)) ||| (nI (2 ^ k)))) 18 (fa k 1) ((M.1 18 (fa k 1)) ||| (nI (2 ^ k))))) rfl ?_
      refine q_Wp.rt rfl rfl ?_
      refine ⟨rfl, rfl, fun r hr => by simp only [q_up]; repeat rw [if_neg (by omega)], by simp [q_up, upd], ?_⟩
      obtain ⟨i1, i2, i3, i4, i5⟩ := hso
      refine ⟨?_, ?_, fun g hg => ?_, fun g hg => ?_, fun g hg => ?_⟩
      · exact (show _ = _ from by simp [q_up, upd] : _ = M.1 17 1).trans (s_mk_no i1 (by simp; omega))
      · exact (show _ = _ from by simp [q_up, upd] : _ = M.1 17 2).trans (s_mk_no i2 (by rw [hwn]; simpa using c1))
      · by_cases e : g = fa k 1
        · subst e; exact (show _ = _ from by simp [q_up, upd] : _ = M.1 18 (fa k 1) ||| nI (2 ^ k)).trans (s_mk_or (i3 _ hg) (by simp; omega))
        · exact (show _ = _ from by simp [q_up, upd, e] : _ = M.1 18 g).trans (s_mk_no (i3 g hg) (by simp; omega))
      · by_cases e : g = fa k 1
        · subst e; exact (show _ = _ from by simp [q_up, upd] : _ = M.1 19 (fa k 1)).trans (s_mk_no (i4 _ hg) (by simp; omega))
        · exact (show _ = _ from by simp [q_up, upd, e] : _ = M.1 19 g).trans (s_mk_no (i4 g hg) (by simp; omega))
      · by_cases e : g = fa k 2
        · subst e; exact (show _ = _ from by simp [q_up, upd] : _ = M.1 20 (fa k 2) ||| nI (2 ^ k)).trans (s_mk_or (i5 _ hg) (by simp))
        · exact (show _ = _ from by simp [q_up, upd, e] : _ = M.1 20 g).trans (s_mk_no (i5 g hg) (by simp; omega))
  · -- f
    refine q_Wp.gn 7 (c' := (61, [some (.ref 17), some (.ref (3 + k)), some (.int (nI (2 ^ k))), some (.int (nI (fa k 1))), some (.int (nI (fa k 2)))], [.int 0, .ref (3 + k)], q_up (q_up M 20 (fa k 2) ((M.1 20 (fa k 2)) ||| (nI (2 ^ k)))) 17 2 ((M.1 17 2) ||| (nI (2 ^ k))))) rfl ?_
    refine q_Wp.ild (i := 0) rfl (q_kd_bank hk) rfl (by decide) (by decide) ?_
    show q_Wp X _ 17 (62, [some (.ref 17), some (.ref (3 + k)), some (.int (nI (2 ^ k))), some (.int (nI (fa k 1))), some (.int (nI (fa k 2)))], [.int ((q_up (q_up M 20 (fa k 2) ((M.1 20 (fa k 2)) ||| (nI (2 ^ k)))) 17 2 ((M.1 17 2) ||| (nI (2 ^ k)))).1 (3 + k) 0)], q_up (q_up M 20 (fa k 2) ((M.1 20 (fa k 2)) ||| (nI (2 ^ k)))) 17 2 ((M.1 17 2) ||| (nI (2 ^ k)))) _
    refine q_Wp.cv (c' := (62, [some (.ref 17), some (.ref (3 + k)), some (.int (nI (2 ^ k))), some (.int (nI (fa k 1))), some (.int (nI (fa k 2)))], [.int (nI (fa k 0))], q_up (q_up M 20 (fa k 2) ((M.1 20 (fa k 2)) ||| (nI (2 ^ k)))) 17 2 ((M.1 17 2) ||| (nI (2 ^ k))))) (by first | rw [q_up_ne _ _ _ (show 3 + k ≠ 17 by omega), q_up_ne _ _ _ (show 3 + k ≠ 20 by omega), h0] | simp only [q_up_ne _ _ _ (show 3 + k ≠ 17 by omega), q_up_ne _ _ _ (show 3 + k ≠ 20 by omega), h0]) ?_
    refine q_Wp.gd 1 (¬ (nI (fa k 0)) = 1) (c1 := (79, [some (.ref 17), some (.ref (3 + k)), some (.int (nI (2 ^ k))), some (.int (nI (fa k 1))), some (.int (nI (fa k 2)))], [], q_up (q_up M 20 (fa k 2) ((M.1 20 (fa k 2)) ||| (nI (2 ^ k)))) 17 2 ((M.1 17 2) ||| (nI (2 ^ k))))) (c2 := (66, [some (.ref 17), some (.ref (3 + k)), some (.int (nI (2 ^ k))), some (.int (nI (fa k 1))), some (.int (nI (fa k 2)))], [], q_up (q_up M 20 (fa k 2) ((M.1 20 (fa k 2)) ||| (nI (2 ^ k)))) 17 2 ((M.1 17 2) ||| (nI (2 ^ k))))) rfl (fun c5 => ?_) (fun c5 => ?_)
    · -- ft
      have c5 : ¬ (fa k 0) = 1 := fun z => c5 ((nI_eq (a := (fa k 0)) (b := 1) (by omega) (by omega)).mpr z)
      refine q_Wp.gn 1 (c' := (81, [some (.ref 17), some (.ref (3 + k)), some (.int (nI (2 ^ k))), some (.int (nI (fa k 1))), some (.int (nI (fa k 2)))], [.int 0, .ref (3 + k)], q_up (q_up M 20 (fa k 2) ((M.1 20 (fa k 2)) ||| (nI (2 ^ k)))) 17 2 ((M.1 17 2) ||| (nI (2 ^ k))))) rfl ?_
      refine q_Wp.ild (i := 0) rfl (q_kd_bank hk) rfl (by decide) (by decide) ?_
      show q_Wp X _ 17 (82, [some (.ref 17), some (.ref (3 + k)), some (.int (nI (2 ^ k))), some (.int (nI (fa k 1))), some (.int (nI (fa k 2)))], [.int ((q_up (q_up M 20 (fa k 2) ((M.1 20 (fa k 2)) ||| (nI (2 ^ k)))) 17 2 ((M.1 17 2) ||| (nI (2 ^ k)))).1 (3 + k) 0)], q_up (q_up M 20 (fa k 2) ((M.1 20 (fa k 2)) ||| (nI (2 ^ k)))) 17 2 ((M.1 17 2) ||| (nI (2 ^ k)))) _
      refine q_Wp.cv (c' := (82, [some (.ref 17), some (.ref (3 + k)), some (.int (nI (2 ^ k))), some (.int (nI (fa k 1))), some (.int (nI (fa k 2)))], [.int (nI (fa k 0))], q_up (q_up M 20 (fa k 2) ((M.1 20 (fa k 2)) ||| (nI (2 ^ k)))) 17 2 ((M.1 17 2) ||| (nI (2 ^ k))))) (by first | rw [q_up_ne _ _ _ (show 3 + k ≠ 17 by omega), q_up_ne _ _ _ (show 3 + k ≠ 20 by omega), h0] | simp only [q_up_ne _ _ _ (show 3 + k ≠ 17 by omega), q_up_ne _ _ _ (show 3 + k ≠ 20 by omega), h0]) ?_
      refine q_Wp.gd 1 (¬ (nI (fa k 0)) = 2) (c1 := (99, [some (.ref 17), some (.ref (3 + k)), some (.int (nI (2 ^ k))), some (.int (nI (fa k 1))), some (.int (nI (fa k 2)))], [], q_up (q_up M 20 (fa k 2) ((M.1 20 (fa k 2)) ||| (nI (2 ^ k)))) 17 2 ((M.1 17 2) ||| (nI (2 ^ k))))) (c2 := (86, [some (.ref 17), some (.ref (3 + k)), some (.int (nI (2 ^ k))), some (.int (nI (fa k 1))), some (.int (nI (fa k 2)))], [], q_up (q_up M 20 (fa k 2) ((M.1 20 (fa k 2)) ||| (nI (2 ^ k)))) 17 2 ((M.1 17 2) ||| (nI (2 ^ k))))) rfl (fun c6 => ?_) (fun c6 => ?_)
      · -- ftt
        have c6 : ¬ (fa k 0) = 2 := fun z => c6 ((nI_eq (a := (fa k 0)) (b := 2) (by omega) (by omega)).mpr z)
        refine q_Wp.gn 1 (c' := (101, [some (.ref 17), some (.ref (3 + k)), some (.int (nI (2 ^ k))), some (.int (nI (fa k 1))), some (.int (nI (fa k 2)))], [.int 0, .ref (3 + k)], q_up (q_up M 20 (fa k 2) ((M.1 20 (fa k 2)) ||| (nI (2 ^ k)))) 17 2 ((M.1 17 2) ||| (nI (2 ^ k))))) rfl ?_
        refine q_Wp.ild (i := 0) rfl (q_kd_bank hk) rfl (by decide) (by decide) ?_
        show q_Wp X _ 17 (102, [some (.ref 17), some (.ref (3 + k)), some (.int (nI (2 ^ k))), some (.int (nI (fa k 1))), some (.int (nI (fa k 2)))], [.int ((q_up (q_up M 20 (fa k 2) ((M.1 20 (fa k 2)) ||| (nI (2 ^ k)))) 17 2 ((M.1 17 2) ||| (nI (2 ^ k)))).1 (3 + k) 0)], q_up (q_up M 20 (fa k 2) ((M.1 20 (fa k 2)) ||| (nI (2 ^ k)))) 17 2 ((M.1 17 2) ||| (nI (2 ^ k)))) _
        refine q_Wp.cv (c' := (102, [some (.ref 17), some (.ref (3 + k)), some (.int (nI (2 ^ k))), some (.int (nI (fa k 1))), some (.int (nI (fa k 2)))], [.int (nI (fa k 0))], q_up (q_up M 20 (fa k 2) ((M.1 20 (fa k 2)) ||| (nI (2 ^ k)))) 17 2 ((M.1 17 2) ||| (nI (2 ^ k))))) (by first | rw [q_up_ne _ _ _ (show 3 + k ≠ 17 by omega), q_up_ne _ _ _ (show 3 + k ≠ 20 by omega), h0] | simp only [q_up_ne _ _ _ (show 3 + k ≠ 17 by omega), q_up_ne _ _ _ (show 3 + k ≠ 20 by omega), h0]) ?_
        refine q_Wp.gd 1 (¬ (nI (fa k 0)) = 3) (c1 := (116, [some (.ref 17), some (.ref (3 + k)), some (.int (nI (2 ^ k))), some (.int (nI (fa k 1))), some (.int (nI (fa k 2)))], [], q_up (q_up M 20 (fa k 2) ((M.1 20 (fa k 2)) ||| (nI (2 ^ k)))) 17 2 ((M.1 17 2) ||| (nI (2 ^ k))))) (c2 := (106, [some (.ref 17), some (.ref (3 + k)), some (.int (nI (2 ^ k))), some (.int (nI (fa k 1))), some (.int (nI (fa k 2)))], [], q_up (q_up M 20 (fa k 2) ((M.1 20 (fa k 2)) ||| (nI (2 ^ k)))) 17 2 ((M.1 17 2) ||| (nI (2 ^ k))))) rfl (fun c7 => ?_) (fun c7 => ?_)
        · -- fttt
          have c7 : ¬ (fa k 0) = 3 := fun z => c7 ((nI_eq (a := (fa k 0)) (b := 3) (by omega) (by omega)).mpr z)
          refine q_Wp.rt rfl rfl ?_
          refine ⟨rfl, rfl, fun r hr => by simp only [q_up]; repeat rw [if_neg (by omega)], by simp [q_up, upd], ?_⟩
          obtain ⟨i1, i2, i3, i4, i5⟩ := hso
          refine ⟨?_, ?_, fun g hg => ?_, fun g hg => ?_, fun g hg => ?_⟩
          · exact (show _ = _ from by simp [q_up, upd] : _ = M.1 17 1).trans (s_mk_no i1 (by simp; omega))
          · exact (show _ = _ from by simp [q_up, upd] : _ = M.1 17 2 ||| nI (2 ^ k)).trans (s_mk_or i2 (by rw [hwn]; simp; exact Int32.not_lt.mp c1))
          · by_cases e : g = fa k 1
            · subst e; exact (show _ = _ from by simp [q_up, upd] : _ = M.1 18 (fa k 1)).trans (s_mk_no (i3 _ hg) (by simp; omega))
            · exact (show _ = _ from by simp [q_up, upd, e] : _ = M.1 18 g).trans (s_mk_no (i3 g hg) (by simp; omega))
          · by_cases e : g = fa k 1
            · subst e; exact (show _ = _ from by simp [q_up, upd] : _ = M.1 19 (fa k 1)).trans (s_mk_no (i4 _ hg) (by simp; omega))
            · exact (show _ = _ from by simp [q_up, upd, e] : _ = M.1 19 g).trans (s_mk_no (i4 g hg) (by simp; omega))
          · by_cases e : g = fa k 2
            · subst e; exact (show _ = _ from by simp [q_up, upd] : _ = M.1 20 (fa k 2) ||| nI (2 ^ k)).trans (s_mk_or (i5 _ hg) (by simp))
            · exact (show _ = _ from by simp [q_up, upd, e] : _ = M.1 20 g).trans (s_mk_no (i5 g hg) (by simp; omega))
        · -- fttf
          have c7 : (fa k 0) = 3 := (nI_eq (a := (fa k 0)) (b := 3) (by omega) (by omega)).mp (Classical.byContradiction c7)
          refine q_Wp.gn 5 (c' := (116, [some (.ref 17), some (.ref (3 + k)), some (.int (nI (2 ^ k))), some (.int (nI (fa k 1))), some (.int (nI (fa k 2)))], [], q_up (q_up (q_up M 20 (fa k 2) ((M.1 20 (fa k 2)) ||| (nI (2 ^ k)))) 17 2 ((M.1 17 2) ||| (nI (2 ^ k)))) 17 1 ((M.1 17 1) ||| (nI (2 ^ k))))) rfl ?_
          refine q_Wp.rt rfl rfl ?_
          refine ⟨rfl, rfl, fun r hr => by simp only [q_up]; repeat rw [if_neg (by omega)], by simp [q_up, upd], ?_⟩
          obtain ⟨i1, i2, i3, i4, i5⟩ := hso
          refine ⟨?_, ?_, fun g hg => ?_, fun g hg => ?_, fun g hg => ?_⟩
          · exact (show _ = _ from by simp [q_up, upd] : _ = M.1 17 1 ||| nI (2 ^ k)).trans (s_mk_or i1 (by simp; omega))
          · exact (show _ = _ from by simp [q_up, upd] : _ = M.1 17 2 ||| nI (2 ^ k)).trans (s_mk_or i2 (by rw [hwn]; simp; exact Int32.not_lt.mp c1))
          · by_cases e : g = fa k 1
            · subst e; exact (show _ = _ from by simp [q_up, upd] : _ = M.1 18 (fa k 1)).trans (s_mk_no (i3 _ hg) (by simp; omega))
            · exact (show _ = _ from by simp [q_up, upd, e] : _ = M.1 18 g).trans (s_mk_no (i3 g hg) (by simp; omega))
          · by_cases e : g = fa k 1
            · subst e; exact (show _ = _ from by simp [q_up, upd] : _ = M.1 19 (fa k 1)).trans (s_mk_no (i4 _ hg) (by simp; omega))
            · exact (show _ = _ from by simp [q_up, upd, e] : _ = M.1 19 g).trans (s_mk_no (i4 g hg) (by simp; omega))
          · by_cases e : g = fa k 2
            · subst e; exact (show _ = _ from by simp [q_up, upd] : _ = M.1 20 (fa k 2) ||| nI (2 ^ k)).trans (s_mk_or (i5 _ hg) (by simp))
            · exact (show _ = _ from by simp [q_up, upd, e] : _ = M.1 20 g).trans (s_mk_no (i5 g hg) (by simp; omega))
      · -- ftf
        have c6 : (fa k 0) = 2 := (nI_eq (a := (fa k 0)) (b := 2) (by omega) (by omega)).mp (Classical.byContradiction c6)
        refine q_Wp.gn 3 (c' := (92, [some (.ref 17), some (.ref (3 + k)), some (.int (nI (2 ^ k))), some (.int (nI (fa k 1))), some (.int (nI (fa k 2)))], [.int (nI (fa k 1)), .ref 19, .int (nI (fa k 1)), .ref 19], q_up (q_up M 20 (fa k 2) ((M.1 20 (fa k 2)) ||| (nI (2 ^ k)))) 17 2 ((M.1 17 2) ||| (nI (2 ^ k))))) rfl ?_
        refine q_Wp.ild (i := (fa k 1)) rfl (rfl) rfl (by omega) (by decide) ?_
        show q_Wp X _ 17 (93, [some (.ref 17), some (.ref (3 + k)), some (.int (nI (2 ^ k))), some (.int (nI (fa k 1))), some (.int (nI (fa k 2)))], [.int (M.1 19 (fa k 1)), .int (nI (fa k 1)), .ref 19], q_up (q_up M 20 (fa k 2) ((M.1 20 (fa k 2)) ||| (nI (2 ^ k)))) 17 2 ((M.1 17 2) ||| (nI (2 ^ k)))) _
        refine q_Wp.gn 1 (c' := (95, [some (.ref 17), some (.ref (3 + k)), some (.int (nI (2 ^ k))), some (.int (nI (fa k 1))), some (.int (nI (fa k 2)))], [.int ((M.1 19 (fa k 1)) ||| (nI (2 ^ k))), .int (nI (fa k 1)), .ref 19], q_up (q_up M 20 (fa k 2) ((M.1 20 (fa k 2)) ||| (nI (2 ^ k)))) 17 2 ((M.1 17 2) ||| (nI (2 ^ k))))) rfl ?_
        refine q_Wp.ist (i := (fa k 1)) rfl (rfl) rfl (by omega) (by decide) ?_
        show q_Wp X _ 17 (96, [some (.ref 17), some (.ref (3 + k)), some (.int (nI (2 ^ k))), some (.int (nI (fa k 1))), some (.int (nI (fa k 2)))], [], q_up (q_up (q_up M 20 (fa k 2) ((M.1 20 (fa k 2)) ||| (nI (2 ^ k)))) 17 2 ((M.1 17 2) ||| (nI (2 ^ k)))) 19 (fa k 1) ((M.1 19 (fa k 1)) ||| (nI (2 ^ k)))) _
        refine q_Wp.gn 0 (c' := (116, [some (.ref 17), some (.ref (3 + k)), some (.int (nI (2 ^ k))), some (.int (nI (fa k 1))), some (.int (nI (fa k 2)))], [], q_up (q_up (q_up M 20 (fa k 2) ((M.1 20 (fa k 2)) ||| (nI (2 ^ k)))) 17 2 ((M.1 17 2) ||| (nI (2 ^ k)))) 19 (fa k 1) ((M.1 19 (fa k 1)) ||| (nI (2 ^ k))))) rfl ?_
        refine q_Wp.rt rfl rfl ?_
        refine ⟨rfl, rfl, fun r hr => by simp only [q_up]; repeat rw [if_neg (by omega)], by simp [q_up, upd], ?_⟩
        obtain ⟨i1, i2, i3, i4, i5⟩ := hso
        refine ⟨?_, ?_, fun g hg => ?_, fun g hg => ?_, fun g hg => ?_⟩
        · exact (show _ = _ from by simp [q_up, upd] : _ = M.1 17 1).trans (s_mk_no i1 (by simp; omega))
        · exact (show _ = _ from by simp [q_up, upd] : _ = M.1 17 2 ||| nI (2 ^ k)).trans (s_mk_or i2 (by rw [hwn]; simp; exact Int32.not_lt.mp c1))
        · by_cases e : g = fa k 1
          · subst e; exact (show _ = _ from by simp [q_up, upd] : _ = M.1 18 (fa k 1)).trans (s_mk_no (i3 _ hg) (by simp; omega))
          · exact (show _ = _ from by simp [q_up, upd, e] : _ = M.1 18 g).trans (s_mk_no (i3 g hg) (by simp; omega))
        · by_cases e : g = fa k 1
          · subst e; exact (show _ = _ from by simp [q_up, upd] : _ = M.1 19 (fa k 1) ||| nI (2 ^ k)).trans (s_mk_or (i4 _ hg) (by simp; omega))
          · exact (show _ = _ from by simp [q_up, upd, e] : _ = M.1 19 g).trans (s_mk_no (i4 g hg) (by simp; omega))
        · by_cases e : g = fa k 2
          · subst e; exact (show _ = _ from by simp [q_up, upd] : _ = M.1 20 (fa k 2) ||| nI (2 ^ k)).trans (s_mk_or (i5 _ hg) (by simp))
          · exact (show _ = _ from by simp [q_up, upd, e] : _ = M.1 20 g).trans (s_mk_no (i5 g hg) (by simp; omega))
    · -- ff
      have c5 : (fa k 0) = 1 := (nI_eq (a := (fa k 0)) (b := 1) (by omega) (by omega)).mp (Classical.byContradiction c5)
      refine q_Wp.gn 3 (c' := (72, [some (.ref 17), some (.ref (3 + k)), some (.int (nI (2 ^ k))), some (.int (nI (fa k 1))), some (.int (nI (fa k 2)))], [.int (nI (fa k 1)), .ref 18, .int (nI (fa k 1)), .ref 18], q_up (q_up M 20 (fa k 2) ((M.1 20 (fa k 2)) ||| (nI (2 ^ k)))) 17 2 ((M.1 17 2) ||| (nI (2 ^ k))))) rfl ?_
      refine q_Wp.ild (i := (fa k 1)) rfl (rfl) rfl (by omega) (by decide) ?_
      show q_Wp X _ 17 (73, [some (.ref 17), some (.ref (3 + k)), some (.int (nI (2 ^ k))), some (.int (nI (fa k 1))), some (.int (nI (fa k 2)))], [.int (M.1 18 (fa k 1)), .int (nI (fa k 1)), .ref 18], q_up (q_up M 20 (fa k 2) ((M.1 20 (fa k 2)) ||| (nI (2 ^ k)))) 17 2 ((M.1 17 2) ||| (nI (2 ^ k)))) _
      refine q_Wp.gn 1 (c' := (75, [some (.ref 17), some (.ref (3 + k)), some (.int (nI (2 ^ k))), some (.int (nI (fa k 1))), some (.int (nI (fa k 2)))], [.int ((M.1 18 (fa k 1)) ||| (nI (2 ^ k))), .int (nI (fa k 1)), .ref 18], q_up (q_up M 20 (fa k 2) ((M.1 20 (fa k 2)) ||| (nI (2 ^ k)))) 17 2 ((M.1 17 2) ||| (nI (2 ^ k))))) rfl ?_
      refine q_Wp.ist (i := (fa k 1)) rfl (rfl) rfl (by omega) (by decide) ?_
      show q_Wp X _ 17 (76, [some (.ref 17), some (.ref (3 + k)), some (.int (nI (2 ^ k))), some (.int (nI (fa k 1))), some (.int (nI (fa k 2)))], [], q_up (q_up (q_up M 20 (fa k 2) ((M.1 20 (fa k 2)) ||| (nI (2 ^ k)))) 17 2 ((M.1 17 2) ||| (nI (2 ^ k)))) 18 (fa k 1) ((M.1 18 (fa k 1)) ||| (nI (2 ^ k)))) _
      refine q_Wp.gn 0 (c' := (116, [some (.ref 17), some (.ref (3 + k)), some (.int (nI (2 ^ k))), some (.int (nI (fa k 1))), some (.int (nI (fa k 2)))], [], q_up (q_up (q_up M 20 (fa k 2) ((M.1 20 (fa k 2)) ||| (nI (2 ^ k)))) 17 2 ((M.1 17 2) ||| (nI (2 ^ k)))) 18 (fa k 1) ((M.1 18 (fa k 1)) ||| (nI (2 ^ k))))) rfl ?_
      refine q_Wp.rt rfl rfl ?_
      refine ⟨rfl, rfl, fun r hr => by simp only [q_up]; repeat rw [if_neg (by omega)], by simp [q_up, upd], ?_⟩
      obtain ⟨i1, i2, i3, i4, i5⟩ := hso
      refine ⟨?_, ?_, fun g hg => ?_, fun g hg => ?_, fun g hg => ?_⟩
      · exact (show _ = _ from by simp [q_up, upd] : _ = M.1 17 1).trans (s_mk_no i1 (by simp; omega))
      · exact (show _ = _ from by simp [q_up, upd] : _ = M.1 17 2 ||| nI (2 ^ k)).trans (s_mk_or i2 (by rw [hwn]; simp; exact Int32.not_lt.mp c1))
      · by_cases e : g = fa k 1
        · subst e; exact (show _ = _ from by simp [q_up, upd] : _ = M.1 18 (fa k 1) ||| nI (2 ^ k)).trans (s_mk_or (i3 _ hg) (by simp; omega))
        · exact (show _ = _ from by simp [q_up, upd, e] : _ = M.1 18 g).trans (s_mk_no (i3 g hg) (by simp; omega))
      · by_cases e : g = fa k 1
        · subst e; exact (show _ = _ from by simp [q_up, upd] : _ = M.1 19 (fa k 1)).trans (s_mk_no (i4 _ hg) (by simp; omega))
        · exact (show _ = _ from by simp [q_up, upd, e] : _ = M.1 19 g).trans (s_mk_no (i4 g hg) (by simp; omega))
      · by_cases e : g = fa k 2
        · subst e; exact (show _ = _ from by simp [q_up, upd] : _ = M.1 20 (fa k 2) ||| nI (2 ^ k)).trans (s_mk_or (i5 _ hg) (by simp))
        · exact (show _ = _ from by simp [q_up, upd, e] : _ = M.1 20 g).trans (s_mk_no (i5 g hg) (by simp; omega))

