/-! Contracts: the calls of a sitting, the class (by program: wip/whole/c27.py) -/
theorem x_bank.shn {n k : Nat} {fa : Nat → Nat → Nat} {sh : Nat → Int32} {M : q_M} (h : x_bank n fa sh M) (hn : n ≤ 10) (hk : k < n) (v : Int32) : x_bank n fa (fun q => if q = k then sh q + v else sh q) (q_up M (3 + k) 4 (M.1 (3 + k) 4 + v)) := by
  refine ⟨by rw [q_up_ne _ _ _ (show 1 ≠ 3 + k by omega)]; exact h.1, fun q hq => ⟨fun j hj hj4 => ?_, ?_⟩⟩
  · by_cases e : q = k
    · subst e; rw [q_up_o _ _ _ hj4]; exact (h.2 q hq).1 j hj hj4
    · rw [q_up_ne _ _ _ (show 3 + q ≠ 3 + k by omega)]; exact (h.2 q hq).1 j hj hj4
  · show _ = if q = k then sh q + v else sh q
    by_cases e : q = k
    · subst e; rw [q_up_s, if_pos rfl, (h.2 q hq).2]
    · rw [q_up_ne _ _ _ (show 3 + q ≠ 3 + k by omega), if_neg e]; exact (h.2 q hq).2
theorem s_open_o (M : q_M) {r : Nat} (h1 : r ≠ 23) (h2 : r ≠ 27) : (s_open M).1 r = M.1 r := by
  unfold s_open q_cpy
  show (if r = 27 then _ else _) = _
  rw [if_neg h2, q_up_ne _ _ _ h1, q_up_ne _ _ _ h1, q_up_ne _ _ _ h1]
theorem s_open_w (M : q_M) {s : Nat} (h : s < 6) : (s_open M).1 27 s = M.1 16 s := by
  rcases (show s = 0 ∨ s = 1 ∨ s = 2 ∨ s = 3 ∨ s = 4 ∨ s = 5 by omega) with h | h | h | h | h | h <;> subst h <;> rfl
/-- the shown, one taken back after the other -/
def s_un (od : Nat → Nat) : Nat → (Nat → Int32) → Nat → Int32
  | 0, sh => sh
  | m + 1, sh => s_un od m (fun q => if q = od m then sh q + (-1) else sh q)
set_option maxRecDepth 10000 in
theorem c_fit_on (X : q_X) (d : Nat)  (M : q_M) (hon : M.1 23 0 = 1) : q_Ev X (d + 5) 35 [.ref 0] M (some (.int (-2))) (M) := by
  refine q_Ev.ofW rfl ?_
  show q_Wp X _ 35 (0, [some (.ref 0)], [], M) _
  refine q_Wp.gn 2 (c' := (7, [some (.ref 0)], [.int (M.1 23 0)], M)) rfl ?_
  refine q_Wp.cv (c' := (7, [some (.ref 0)], [.int 1], M)) (by first | rw [hon] | simp only [hon]) ?_
  refine q_Wp.gn 1 (c' := (12, [some (.ref 0)], [.int (-2)], M)) rfl ?_
  exact q_Wp.rt rfl rfl ⟨by rfl, by rfl⟩

set_option maxRecDepth 10000 in
theorem c_fit_off (X : q_X) (d : Nat) {n : Nat} {fa : Nat → Nat → Nat} {sh : Nat → Int32} (hO : ok_bank n fa) (M : q_M) (hB : x_bank n fa sh M) (hon : M.1 23 0 = 0) : q_Ep X (d + 5) 35 [.ref 0] M (fun r M' => r = some (.int (nI (s_ct (2 ^ n) (s_fx n fa (s_wn fa sh) (M.1 13 0) (M.1 14) (M.1 15))))) ∧ ∀ r, r < 17 ∨ 21 < r → M'.1 r = M.1 r) := by
  refine q_Ep.ofW rfl ?_
  show q_Wp X _ 35 (0, [some (.ref 0)], [], M) _
  refine q_Wp.gn 2 (c' := (7, [some (.ref 0)], [.int (M.1 23 0)], M)) rfl ?_
  refine q_Wp.cv (c' := (7, [some (.ref 0)], [.int 0], M)) (by first | rw [hon] | simp only [hon]) ?_
  refine q_Wp.gp 7 (mj := 8) (as := [.ref 17, .ref 1, .ref 13]) (pc := 28) (ls := [some (.ref 0)]) (st := []) (M := M) rfl (c_findAll X d (n := n) (fa := fa) (sh := sh) hO M hB) (fun r1 M2 hp3 => ?_)
  obtain ⟨rfl, hf1, hf2, hf3, hf4, hf5⟩ := hp3
  show q_Wp X _ 35 (28, [some (.ref 0)], [.int (nI (s_ct (2 ^ n) (s_fx n fa (s_wn fa sh) (M.1 13 0) (M.1 14) (M.1 15))))], M2) _
  exact q_Wp.rt rfl rfl ⟨rfl, hf2⟩

set_option maxRecDepth 10000 in
theorem c_begin_on (X : q_X) (d : Nat)  (M : q_M) (hon : M.1 23 0 = 1) : q_Ev X (d + 5) 36 [.ref 0] M (some (.int (-2))) (M) := by
  refine q_Ev.ofW rfl ?_
  show q_Wp X _ 36 (0, [some (.ref 0)], [], M) _
  refine q_Wp.gn 2 (c' := (7, [some (.ref 0)], [.int (M.1 23 0)], M)) rfl ?_
  refine q_Wp.cv (c' := (7, [some (.ref 0)], [.int 1], M)) (by first | rw [hon] | simp only [hon]) ?_
  refine q_Wp.gn 1 (c' := (30, [some (.ref 0)], [.int (-2)], M)) rfl ?_
  exact q_Wp.rt rfl rfl ⟨by rfl, by rfl⟩

set_option maxRecDepth 10000 in
theorem c_begin_off (X : q_X) (d : Nat) {n : Nat} {fa : Nat → Nat → Nat} {sh : Nat → Int32} (hO : ok_bank n fa) (M : q_M) (hB : x_bank n fa sh M) (hon : M.1 23 0 = 0) : q_Ep X (d + 5) 36 [.ref 0] M (fun r M' => (∀ r, r < 17 ∨ 34 ≤ r → M'.1 r = M.1 r) ∧ ((s_ct (2 ^ n) (s_fx n fa (s_wn fa sh) (M.1 13 0) (M.1 14) (M.1 15)) = 0 ∧ r = some (.int (-2)) ∧ M'.1 23 0 = 0 ∧ M'.1 23 1 = M.1 23 1) ∨ (¬ s_ct (2 ^ n) (s_fx n fa (s_wn fa sh) (M.1 13 0) (M.1 14) (M.1 15)) = 0 ∧ r = some (.int (s_bc (nI (s_xm n fa (s_fx n fa (s_wn fa sh) (M.1 13 0) (M.1 14) (M.1 15)) 0)))) ∧ x_set n fa (s_wn fa sh) (s_fx n fa (s_wn fa sh) (M.1 13 0) (M.1 14) (M.1 15)) M' ∧ M'.1 23 0 = 1 ∧ M'.1 23 1 = M.1 23 1 ∧ M'.1 23 2 = 0 ∧ M'.1 23 3 = 0 ∧ ∀ s, s < 6 → M'.1 27 s = M.1 16 s))) := by
  refine q_Ep.ofW rfl ?_
  show q_Wp X _ 36 (0, [some (.ref 0)], [], M) _
  have hn := hO.1
  have hpn := s_pw hn
  have hcl := s_ct_le (s_fx n fa (s_wn fa sh) (M.1 13 0) (M.1 14) (M.1 15)) (2 ^ n)
  refine q_Wp.gn 2 (c' := (7, [some (.ref 0)], [.int (M.1 23 0)], M)) rfl ?_
  refine q_Wp.cv (c' := (7, [some (.ref 0)], [.int 0], M)) (by first | rw [hon] | simp only [hon]) ?_
  refine q_Wp.gp 7 (mj := 8) (as := [.ref 17, .ref 1, .ref 13]) (pc := 25) (ls := [some (.ref 0)]) (st := []) (M := M) rfl (c_findAll X d (n := n) (fa := fa) (sh := sh) hO M hB) (fun r1 M2 hp3 => ?_)
  obtain ⟨rfl, hf1, hf2, hf3, hf4, hf5⟩ := hp3
  show q_Wp X _ 36 (25, [some (.ref 0)], [.int (nI (s_ct (2 ^ n) (s_fx n fa (s_wn fa sh) (M.1 13 0) (M.1 14) (M.1 15))))], M2) _
  refine q_Wp.gd 0 (¬ (nI (s_ct (2 ^ n) (s_fx n fa (s_wn fa sh) (M.1 13 0) (M.1 14) (M.1 15)))) = 0) (c1 := (31, [some (.ref 0)], [], M2)) (c2 := (28, [some (.ref 0)], [], M2)) rfl (fun h4 => ?_) (fun h4 => ?_)
  · -- t
    have h4 : ¬ (s_ct (2 ^ n) (s_fx n fa (s_wn fa sh) (M.1 13 0) (M.1 14) (M.1 15))) = 0 := fun z => h4 ((nI_eq (a := (s_ct (2 ^ n) (s_fx n fa (s_wn fa sh) (M.1 13 0) (M.1 14) (M.1 15)))) (b := 0) (by omega) (by omega)).mpr z)
    refine q_Wp.gp 2 (mj := 9) (as := [.ref 17]) (pc := 38) (ls := [some (.ref 0)]) (st := []) (M := M2) rfl (c_spreadToParts X d (n := n) (ft := (s_fx n fa (s_wn fa sh) (M.1 13 0) (M.1 14) (M.1 15))) hn M2 hf3 hf5) (fun r5 M6 hp7 => ?_)
    obtain ⟨rfl, hs1, hs2, hs3⟩ := hp7
    have hset : x_set n fa (s_wn fa sh) (s_fx n fa (s_wn fa sh) (M.1 13 0) (M.1 14) (M.1 15)) (s_open M6) := ⟨by rw [s_open_o _ (by decide) (by decide), hs2 17 (by decide)]; exact hf3, (hf4.keep (hs2 17 (by decide)) (hs2 18 (by decide)) (hs2 19 (by decide)) (hs2 20 (by decide))).keep (s_open_o _ (by decide) (by decide)) (s_open_o _ (by decide) (by decide)) (s_open_o _ (by decide) (by decide)) (s_open_o _ (by decide) (by decide)), fun U hU => by rw [s_open_o _ (by decide) (by decide), hs2 21 (by decide)]; exact hf5 U hU, fun U hU => by rw [s_open_o _ (by decide) (by decide)]; exact hs3 U hU⟩
    show q_Wp X _ 36 (38, [some (.ref 0)], [], M6) _
    refine q_Wp.gc 4 (mj := 22) (as := [.ref 23, .ref 13]) (pc := 49) (ls := [some (.ref 0)]) (st := []) (M := M6) (r1 := none) (M1 := s_open M6) rfl (c_open X (d + 3) M6) ?_
    show q_Wp X _ 36 (49, [some (.ref 0)], [], s_open M6) _
    refine q_Wp.gc 1 (mj := 49) (as := [.ref 0]) (pc := 53) (ls := [some (.ref 0)]) (st := []) (M := s_open M6) (r1 := some (.int (nI (s_xm n fa (s_fx n fa (s_wn fa sh) (M.1 13 0) (M.1 14) (M.1 15)) 0)))) (M1 := s_open M6) rfl (c_askable X d (n := n) (A := 0) (fa := fa) (wn := s_wn fa sh) (ft := (s_fx n fa (s_wn fa sh) (M.1 13 0) (M.1 14) (M.1 15))) hn (Nat.two_pow_pos n) (s_open M6) hset rfl) ?_
    show q_Wp X _ 36 (53, [some (.ref 0)], [.int (nI (s_xm n fa (s_fx n fa (s_wn fa sh) (M.1 13 0) (M.1 14) (M.1 15)) 0))], s_open M6) _
    refine q_Wp.gc 0 (mj := 110) (as := [.int (nI (s_xm n fa (s_fx n fa (s_wn fa sh) (M.1 13 0) (M.1 14) (M.1 15)) 0))]) (pc := 56) (ls := [some (.ref 0)]) (st := []) (M := s_open M6) (r1 := some (.int (s_bc (nI (s_xm n fa (s_fx n fa (s_wn fa sh) (M.1 13 0) (M.1 14) (M.1 15)) 0))))) (M1 := s_open M6) rfl (c_bitCount X (d + 3) (nI (s_xm n fa (s_fx n fa (s_wn fa sh) (M.1 13 0) (M.1 14) (M.1 15)) 0)) (s_open M6)) ?_
    show q_Wp X _ 36 (56, [some (.ref 0)], [.int (s_bc (nI (s_xm n fa (s_fx n fa (s_wn fa sh) (M.1 13 0) (M.1 14) (M.1 15)) 0)))], s_open M6) _
    refine q_Wp.rt rfl rfl ?_
    exact ⟨fun r hr => by rw [s_open_o _ (by omega) (by omega), hs2 r (by omega), hf2 r (by omega)], Or.inr ⟨h4, rfl, hset, rfl, (congrFun (hs2 23 (by decide)) 1).trans (congrFun (hf2 23 (by decide)) 1), rfl, rfl, fun s hs => by rw [s_open_w _ hs, hs2 16 (by decide), hf2 16 (by decide)]⟩⟩
  · -- f
    have h4 : (s_ct (2 ^ n) (s_fx n fa (s_wn fa sh) (M.1 13 0) (M.1 14) (M.1 15))) = 0 := (nI_eq (a := (s_ct (2 ^ n) (s_fx n fa (s_wn fa sh) (M.1 13 0) (M.1 14) (M.1 15)))) (b := 0) (by omega) (by omega)).mp (Classical.byContradiction h4)
    refine q_Wp.gn 0 (c' := (30, [some (.ref 0)], [.int (-2)], M2)) rfl ?_
    refine q_Wp.rt rfl rfl ?_
    exact ⟨fun r hr => hf2 r (by omega), Or.inl ⟨h4, rfl, (congrFun (hf2 23 (by decide)) 0).trans hon, congrFun (hf2 23 (by decide)) 1⟩⟩

set_option maxRecDepth 10000 in
theorem c_done_off (X : q_X) (d : Nat)  (M : q_M) (hon : M.1 23 0 = 0) : q_Ev X (d + 6) 44 [.ref 0] M (some (.int (-2))) (M) := by
  refine q_Ev.ofW rfl ?_
  show q_Wp X _ 44 (0, [some (.ref 0)], [], M) _
  refine q_Wp.gn 2 (c' := (7, [some (.ref 0)], [.int (M.1 23 0)], M)) rfl ?_
  refine q_Wp.cv (c' := (7, [some (.ref 0)], [.int 0], M)) (by first | rw [hon] | simp only [hon]) ?_
  refine q_Wp.gn 1 (c' := (12, [some (.ref 0)], [.int (-2)], M)) rfl ?_
  exact q_Wp.rt rfl rfl ⟨by rfl, by rfl⟩

set_option maxRecDepth 10000 in
theorem c_done_on (X : q_X) (d : Nat) {n A t : Nat} {fa : Nat → Nat → Nat} {wn ft : Nat → Bool} (hn : n ≤ 10) (hA : A < 2 ^ n) (ht : t ≤ 6) (M : q_M) (hon : M.1 23 0 = 1) (hs : x_set n fa wn ft M) (hAM : M.1 23 3 = nI A) (hT : M.1 23 2 = nI t) : q_Ev X (d + 6) 44 [.ref 0] M (some (.int (s_done (ft A) (s_sureX (M.1 (27 + t)) (M.1 13 1) (M.1 13 2)) (s_xm n fa ft A)))) (M) := by
  refine q_Ev.ofW rfl ?_
  show q_Wp X _ 44 (0, [some (.ref 0)], [], M) _
  refine q_Wp.gn 2 (c' := (7, [some (.ref 0)], [.int (M.1 23 0)], M)) rfl ?_
  refine q_Wp.cv (c' := (7, [some (.ref 0)], [.int 1], M)) (by first | rw [hon] | simp only [hon]) ?_
  refine q_Wp.gc 2 (mj := 50) (as := [.ref 0]) (pc := 17) (ls := [some (.ref 0)]) (st := []) (M := M) (r1 := some (.int (s_done (ft A) (s_sureX (M.1 (27 + t)) (M.1 13 1) (M.1 13 2)) (s_xm n fa ft A)))) (M1 := M) rfl (c_doneness X d (n := n) (A := A) (t := t) (fa := fa) (wn := wn) (ft := ft) hn hA ht M hs hAM hT) ?_
  show q_Wp X _ 44 (17, [some (.ref 0)], [.int (s_done (ft A) (s_sureX (M.1 (27 + t)) (M.1 13 1) (M.1 13 2)) (s_xm n fa ft A))], M) _
  exact q_Wp.rt rfl rfl ⟨by rfl, by rfl⟩

set_option maxRecDepth 10000 in
theorem c_next_off (X : q_X) (d : Nat)  (M : q_M) (hon : M.1 23 0 = 0) : q_Ev X (d + 6) 37 [.ref 0] M (some (.int (-2))) (M) := by
  refine q_Ev.ofW rfl ?_
  show q_Wp X _ 37 (0, [some (.ref 0)], [], M) _
  refine q_Wp.gn 2 (c' := (7, [some (.ref 0)], [.int (M.1 23 0)], M)) rfl ?_
  refine q_Wp.cv (c' := (7, [some (.ref 0)], [.int 0], M)) (by first | rw [hon] | simp only [hon]) ?_
  refine q_Wp.gn 1 (c' := (12, [some (.ref 0)], [.int (-2)], M)) rfl ?_
  exact q_Wp.rt rfl rfl ⟨by rfl, by rfl⟩

set_option maxRecDepth 10000 in
theorem c_next_on (X : q_X) (d : Nat) {n A t : Nat} {fa : Nat → Nat → Nat} {wn ft : Nat → Bool} (hn : n ≤ 10) (hA : A < 2 ^ n) (ht : t ≤ 6) {T B : Nat → Nat} (M : q_M) (hon : M.1 23 0 = 1) (hs : x_set n fa wn ft M) (hAM : M.1 23 3 = nI A) (hT : M.1 23 2 = nI t) (hsz : M.1 1 0 = nI n) (hG : x_gain n t T B M) : q_Ev X (d + 6) 37 [.ref 0] M (some (.int (if (s_done (ft A) (s_sureX (M.1 (27 + t)) (M.1 13 1) (M.1 13 2)) (s_xm n fa ft A)) = 0 then s_ov (s_nx (s_xm n fa ft A) T B n) else -9))) (M) := by
  refine q_Ev.ofW rfl ?_
  show q_Wp X _ 37 (0, [some (.ref 0)], [], M) _
  refine q_Wp.gn 2 (c' := (7, [some (.ref 0)], [.int (M.1 23 0)], M)) rfl ?_
  refine q_Wp.cv (c' := (7, [some (.ref 0)], [.int 1], M)) (by first | rw [hon] | simp only [hon]) ?_
  refine q_Wp.gc 2 (mj := 50) (as := [.ref 0]) (pc := 17) (ls := [some (.ref 0)]) (st := []) (M := M) (r1 := some (.int (s_done (ft A) (s_sureX (M.1 (27 + t)) (M.1 13 1) (M.1 13 2)) (s_xm n fa ft A)))) (M1 := M) rfl (c_doneness X d (n := n) (A := A) (t := t) (fa := fa) (wn := wn) (ft := ft) hn hA ht M hs hAM hT) ?_
  show q_Wp X _ 37 (17, [some (.ref 0)], [.int (s_done (ft A) (s_sureX (M.1 (27 + t)) (M.1 13 1) (M.1 13 2)) (s_xm n fa ft A))], M) _
  refine q_Wp.gd 0 ((s_done (ft A) (s_sureX (M.1 (27 + t)) (M.1 13 1) (M.1 13 2)) (s_xm n fa ft A)) = 0) (c1 := (23, [some (.ref 0)], [], M)) (c2 := (20, [some (.ref 0)], [], M)) rfl (fun h1 => ?_) (fun h1 => ?_)
  · -- t
    refine q_Wp.gc 2 (mj := 49) (as := [.ref 0]) (pc := 28) (ls := [some (.ref 0)]) (st := [.ref 0]) (M := M) (r1 := some (.int (nI (s_xm n fa ft A)))) (M1 := M) rfl (c_askable X (d + 1) (n := n) (A := A) (fa := fa) (wn := wn) (ft := ft) hn hA M hs hAM) ?_
    show q_Wp X _ 37 (28, [some (.ref 0)], [.int (nI (s_xm n fa ft A)), .ref 0], M) _
    refine q_Wp.gc 0 (mj := 51) (as := [.ref 0, .int (nI (s_xm n fa ft A))]) (pc := 31) (ls := [some (.ref 0)]) (st := []) (M := M) (r1 := some (.int (s_ov (s_nx (s_xm n fa ft A) T B n)))) (M1 := M) rfl (c_mostTelling X d (n := n) (t := t) (K := (s_xm n fa ft A)) (T := T) (B := B) hn ht M hsz hT hG) ?_
    show q_Wp X _ 37 (31, [some (.ref 0)], [.int (s_ov (s_nx (s_xm n fa ft A) T B n))], M) _
    exact q_Wp.rt rfl rfl ⟨by simp only [*, if_true, if_false, if_pos, if_neg, not_false_eq_true], by rfl⟩
  · -- f
    refine q_Wp.gn 0 (c' := (22, [some (.ref 0)], [.int (-9)], M)) rfl ?_
    exact q_Wp.rt rfl rfl ⟨by simp only [*, if_true, if_false, if_pos, if_neg, not_false_eq_true], by rfl⟩

set_option maxRecDepth 10000 in
theorem c_may_off (X : q_X) (d : Nat) {n : Nat} (q : Int32) (M : q_M) (hsz : M.1 1 0 = nI n) (hon : M.1 23 0 = 0) : q_Ev X (d + 5) 42 [.ref 0, .int q] M (some (.int (if s_has (nI n) q = true then -2 else -1))) (M) := by
  refine q_Ev.ofW rfl ?_
  show q_Wp X _ 42 (0, [some (.ref 0), some (.int q)], [], M) _
  refine q_Wp.gc 3 (mj := 2) (as := [.ref 1, .int q]) (pc := 8) (ls := [some (.ref 0), some (.int q)]) (st := []) (M := M) (r1 := some (.int (q_b (s_has (M.1 1 0) q)))) (M1 := M) rfl (c_has X (d + 3) q M) ?_
  show q_Wp X _ 42 (8, [some (.ref 0), some (.int q)], [.int (q_b (s_has (M.1 1 0) q))], M) _
  refine q_Wp.cv (c' := (8, [some (.ref 0), some (.int q)], [.int (q_b (s_has (nI n) q))], M)) (by first | rw [hsz] | simp only [hsz]) ?_
  refine q_Wp.gn0 0 (b := (s_has (nI n) q)) (c1 := (13, [some (.ref 0), some (.int q)], [], M)) (c2 := (11, [some (.ref 0), some (.int q)], [], M)) rfl (fun h1 => ?_) (fun h1 => ?_)
  · -- t
    refine q_Wp.gn 2 (c' := (20, [some (.ref 0), some (.int q)], [.int (M.1 23 0)], M)) rfl ?_
    refine q_Wp.cv (c' := (20, [some (.ref 0), some (.int q)], [.int 0], M)) (by first | rw [hon] | simp only [hon]) ?_
    refine q_Wp.gn 1 (c' := (25, [some (.ref 0), some (.int q)], [.int (-2)], M)) rfl ?_
    exact q_Wp.rt rfl rfl ⟨by simp [*], by rfl⟩
  · -- f
    refine q_Wp.gn 0 (c' := (12, [some (.ref 0), some (.int q)], [.int (-1)], M)) rfl ?_
    exact q_Wp.rt rfl rfl ⟨by simp [*], by rfl⟩

set_option maxRecDepth 10000 in
theorem c_may_on (X : q_X) (d : Nat) {n A t : Nat} {fa : Nat → Nat → Nat} {wn ft : Nat → Bool} (hn : n ≤ 10) (hA : A < 2 ^ n) (ht : t ≤ 6) (q : Int32) (M : q_M) (hsz : M.1 1 0 = nI n) (hon : M.1 23 0 = 1) (hs : x_set n fa wn ft M) (hAM : M.1 23 3 = nI A) (hT : M.1 23 2 = nI t) : q_Ev X (d + 5) 42 [.ref 0, .int q] M (some (.int (if s_has (nI n) q = true then q_b ((s_xm n fa ft A).testBit q.toNatClampNeg) else -1))) (M) := by
  refine q_Ev.ofW rfl ?_
  show q_Wp X _ 42 (0, [some (.ref 0), some (.int q)], [], M) _
  refine q_Wp.gc 3 (mj := 2) (as := [.ref 1, .int q]) (pc := 8) (ls := [some (.ref 0), some (.int q)]) (st := []) (M := M) (r1 := some (.int (q_b (s_has (M.1 1 0) q)))) (M1 := M) rfl (c_has X (d + 3) q M) ?_
  show q_Wp X _ 42 (8, [some (.ref 0), some (.int q)], [.int (q_b (s_has (M.1 1 0) q))], M) _
  refine q_Wp.cv (c' := (8, [some (.ref 0), some (.int q)], [.int (q_b (s_has (nI n) q))], M)) (by first | rw [hsz] | simp only [hsz]) ?_
  refine q_Wp.gn0 0 (b := (s_has (nI n) q)) (c1 := (13, [some (.ref 0), some (.int q)], [], M)) (c2 := (11, [some (.ref 0), some (.int q)], [], M)) rfl (fun h1 => ?_) (fun h1 => ?_)
  · -- t
    obtain ⟨k, hk, rfl⟩ := s_has_inv hn h1
    have hck : (nI k).toNatClampNeg = k := nI_clamp (by omega)
    refine q_Wp.gn 2 (c' := (20, [some (.ref 0), some (.int (nI k))], [.int (M.1 23 0)], M)) rfl ?_
    refine q_Wp.cv (c' := (20, [some (.ref 0), some (.int (nI k))], [.int 1], M)) (by first | rw [hon] | simp only [hon]) ?_
    refine q_Wp.gc 2 (mj := 49) (as := [.ref 0]) (pc := 30) (ls := [some (.ref 0), some (.int (nI k))]) (st := []) (M := M) (r1 := some (.int (nI (s_xm n fa ft A)))) (M1 := M) rfl (c_askable X d (n := n) (A := A) (fa := fa) (wn := wn) (ft := ft) hn hA M hs hAM) ?_
    show q_Wp X _ 42 (30, [some (.ref 0), some (.int (nI k))], [.int (nI (s_xm n fa ft A))], M) _
    refine q_Wp.gc 1 (mj := 58) (as := [.int (nI (s_xm n fa ft A)), .int (nI k)]) (pc := 34) (ls := [some (.ref 0), some (.int (nI k))]) (st := []) (M := M) (r1 := some (.int (q_b (s_isIn (nI (s_xm n fa ft A)) (nI k))))) (M1 := M) rfl (c_isIn X (d + 3) (nI (s_xm n fa ft A)) (nI k) M) ?_
    show q_Wp X _ 42 (34, [some (.ref 0), some (.int (nI k))], [.int (q_b (s_isIn (nI (s_xm n fa ft A)) (nI k)))], M) _
    refine q_Wp.cv (c' := (34, [some (.ref 0), some (.int (nI k))], [.int (q_b ((s_xm n fa ft A).testBit k))], M)) (by first | rw [s_isIn_b (K := s_xm n fa ft A) (q := k) (by omega)] | simp only [s_isIn_b (K := s_xm n fa ft A) (q := k) (by omega)]) ?_
    refine q_Wp.gc 0 (mj := 57) (as := [.int (q_b ((s_xm n fa ft A).testBit k))]) (pc := 37) (ls := [some (.ref 0), some (.int (nI k))]) (st := []) (M := M) (r1 := some (.int (q_b ((s_xm n fa ft A).testBit k)))) (M1 := M) rfl (c_asNumber X (d + 3) ((s_xm n fa ft A).testBit k) M) ?_
    show q_Wp X _ 42 (37, [some (.ref 0), some (.int (nI k))], [.int (q_b ((s_xm n fa ft A).testBit k))], M) _
    exact q_Wp.rt rfl rfl ⟨by simp [*], by rfl⟩
  · -- f
    refine q_Wp.gn 0 (c' := (12, [some (.ref 0), some (.int q)], [.int (-1)], M)) rfl ?_
    exact q_Wp.rt rfl rfl ⟨by simp [*], by rfl⟩

set_option maxRecDepth 10000 in
theorem c_gain_off (X : q_X) (d : Nat) {n : Nat} (q p : Int32) (M : q_M) (hsz : M.1 1 0 = nI n) (hon : M.1 23 0 = 0) : q_Ev X (d + 5) 43 [.ref 0, .int q, .int p] M (some (.int (if (s_has (nI n) q && s_has (nI n) p) = true then -3 else -2))) (M) := by
  refine q_Ev.ofW rfl ?_
  show q_Wp X _ 43 (0, [some (.ref 0), some (.int q), some (.int p)], [], M) _
  refine q_Wp.gc 3 (mj := 2) (as := [.ref 1, .int q]) (pc := 8) (ls := [some (.ref 0), some (.int q), some (.int p)]) (st := []) (M := M) (r1 := some (.int (q_b (s_has (M.1 1 0) q)))) (M1 := M) rfl (c_has X (d + 3) q M) ?_
  show q_Wp X _ 43 (8, [some (.ref 0), some (.int q), some (.int p)], [.int (q_b (s_has (M.1 1 0) q))], M) _
  refine q_Wp.cv (c' := (8, [some (.ref 0), some (.int q), some (.int p)], [.int (q_b (s_has (nI n) q))], M)) (by first | rw [hsz] | simp only [hsz]) ?_
  refine q_Wp.ge0 0 (b := (s_has (nI n) q)) (c1 := (22, [some (.ref 0), some (.int q), some (.int p)], [], M)) (c2 := (11, [some (.ref 0), some (.int q), some (.int p)], [], M)) rfl (fun h1 => ?_) (fun h1 => ?_)
  · -- t
    refine q_Wp.gn 0 (c' := (24, [some (.ref 0), some (.int q), some (.int p)], [.int (-2)], M)) rfl ?_
    exact q_Wp.rt rfl rfl ⟨by simp [*], by rfl⟩
  · -- f
    refine q_Wp.gc 3 (mj := 2) (as := [.ref 1, .int p]) (pc := 19) (ls := [some (.ref 0), some (.int q), some (.int p)]) (st := []) (M := M) (r1 := some (.int (q_b (s_has (M.1 1 0) p)))) (M1 := M) rfl (c_has X (d + 3) p M) ?_
    show q_Wp X _ 43 (19, [some (.ref 0), some (.int q), some (.int p)], [.int (q_b (s_has (M.1 1 0) p))], M) _
    refine q_Wp.cv (c' := (19, [some (.ref 0), some (.int q), some (.int p)], [.int (q_b (s_has (nI n) p))], M)) (by first | rw [hsz] | simp only [hsz]) ?_
    refine q_Wp.gn0 0 (b := (s_has (nI n) p)) (c1 := (25, [some (.ref 0), some (.int q), some (.int p)], [], M)) (c2 := (22, [some (.ref 0), some (.int q), some (.int p)], [], M)) rfl (fun h2 => ?_) (fun h2 => ?_)
    · -- ft
      refine q_Wp.gn 2 (c' := (32, [some (.ref 0), some (.int q), some (.int p)], [.int (M.1 23 0)], M)) rfl ?_
      refine q_Wp.cv (c' := (32, [some (.ref 0), some (.int q), some (.int p)], [.int 0], M)) (by first | rw [hon] | simp only [hon]) ?_
      refine q_Wp.gn 1 (c' := (37, [some (.ref 0), some (.int q), some (.int p)], [.int (-3)], M)) rfl ?_
      exact q_Wp.rt rfl rfl ⟨by simp [*], by rfl⟩
    · -- ff
      refine q_Wp.gn 0 (c' := (24, [some (.ref 0), some (.int q), some (.int p)], [.int (-2)], M)) rfl ?_
      exact q_Wp.rt rfl rfl ⟨by simp [*], by rfl⟩

set_option maxRecDepth 10000 in
theorem c_gain_on (X : q_X) (d : Nat) {n t : Nat} {T B : Nat → Nat} (hn : n ≤ 10) (ht : t ≤ 6) (q p : Int32) (M : q_M) (hsz : M.1 1 0 = nI n) (hon : M.1 23 0 = 1) (hT : M.1 23 2 = nI t) (hG : x_gain n t T B M) : q_Ev X (d + 5) 43 [.ref 0, .int q, .int p] M (some (.int (if (s_has (nI n) q && s_has (nI n) p) = true then s_cmp 100 (T q.toNatClampNeg) (B q.toNatClampNeg) (T p.toNatClampNeg) (B p.toNatClampNeg) 1 else -2))) (M) := by
  refine q_Ev.ofW rfl ?_
  show q_Wp X _ 43 (0, [some (.ref 0), some (.int q), some (.int p)], [], M) _
  refine q_Wp.gc 3 (mj := 2) (as := [.ref 1, .int q]) (pc := 8) (ls := [some (.ref 0), some (.int q), some (.int p)]) (st := []) (M := M) (r1 := some (.int (q_b (s_has (M.1 1 0) q)))) (M1 := M) rfl (c_has X (d + 3) q M) ?_
  show q_Wp X _ 43 (8, [some (.ref 0), some (.int q), some (.int p)], [.int (q_b (s_has (M.1 1 0) q))], M) _
  refine q_Wp.cv (c' := (8, [some (.ref 0), some (.int q), some (.int p)], [.int (q_b (s_has (nI n) q))], M)) (by first | rw [hsz] | simp only [hsz]) ?_
  refine q_Wp.ge0 0 (b := (s_has (nI n) q)) (c1 := (22, [some (.ref 0), some (.int q), some (.int p)], [], M)) (c2 := (11, [some (.ref 0), some (.int q), some (.int p)], [], M)) rfl (fun h1 => ?_) (fun h1 => ?_)
  · -- t
    refine q_Wp.gn 0 (c' := (24, [some (.ref 0), some (.int q), some (.int p)], [.int (-2)], M)) rfl ?_
    exact q_Wp.rt rfl rfl ⟨by simp [*], by rfl⟩
  · -- f
    obtain ⟨k, hk, rfl⟩ := s_has_inv hn h1
    have hck : (nI k).toNatClampNeg = k := nI_clamp (by omega)
    refine q_Wp.gc 3 (mj := 2) (as := [.ref 1, .int p]) (pc := 19) (ls := [some (.ref 0), some (.int (nI k)), some (.int p)]) (st := []) (M := M) (r1 := some (.int (q_b (s_has (M.1 1 0) p)))) (M1 := M) rfl (c_has X (d + 3) p M) ?_
    show q_Wp X _ 43 (19, [some (.ref 0), some (.int (nI k)), some (.int p)], [.int (q_b (s_has (M.1 1 0) p))], M) _
    refine q_Wp.cv (c' := (19, [some (.ref 0), some (.int (nI k)), some (.int p)], [.int (q_b (s_has (nI n) p))], M)) (by first | rw [hsz] | simp only [hsz]) ?_
    refine q_Wp.gn0 0 (b := (s_has (nI n) p)) (c1 := (25, [some (.ref 0), some (.int (nI k)), some (.int p)], [], M)) (c2 := (22, [some (.ref 0), some (.int (nI k)), some (.int p)], [], M)) rfl (fun h2 => ?_) (fun h2 => ?_)
    · -- ft
      obtain ⟨j, hj, rfl⟩ := s_has_inv hn h2
      have hcj : (nI j).toNatClampNeg = j := nI_clamp (by omega)
      refine q_Wp.gn 2 (c' := (32, [some (.ref 0), some (.int (nI k)), some (.int (nI j))], [.int (M.1 23 0)], M)) rfl ?_
      refine q_Wp.cv (c' := (32, [some (.ref 0), some (.int (nI k)), some (.int (nI j))], [.int 1], M)) (by first | rw [hon] | simp only [hon]) ?_
      refine q_Wp.gc 4 (mj := 52) (as := [.ref 0, .int (nI k), .int (nI j)]) (pc := 44) (ls := [some (.ref 0), some (.int (nI k)), some (.int (nI j))]) (st := []) (M := M) (r1 := some (.int (s_cmp 100 (T k) (B k) (T j) (B j) 1))) (M1 := M) rfl (c_compareGains X d (n := n) (k := k) (k2 := j) (t := t) ht (hG _ hk).2.1 (hG _ hk).2.2.2.1 (hG _ hj).2.1 (hG _ hj).2.2.2.1 (hG _ hk).2.2.2.2 (hG _ hj).2.2.2.2 M hsz hn hk hj hT (hG _ hk).1 (hG _ hk).2.2.1 (hG _ hj).1 (hG _ hj).2.2.1) ?_
      show q_Wp X _ 43 (44, [some (.ref 0), some (.int (nI k)), some (.int (nI j))], [.int (s_cmp 100 (T k) (B k) (T j) (B j) 1)], M) _
      exact q_Wp.rt rfl rfl ⟨by simp [*], by rfl⟩
    · -- ff
      refine q_Wp.gn 0 (c' := (24, [some (.ref 0), some (.int (nI k)), some (.int p)], [.int (-2)], M)) rfl ?_
      exact q_Wp.rt rfl rfl ⟨by simp [*], by rfl⟩

set_option maxRecDepth 10000 in
theorem c_end_off (X : q_X) (d : Nat)  (M : q_M) (hon : M.1 23 0 = 0) : q_Ev X (d + 6) 40 [.ref 0] M (some (.int (-2))) (M) := by
  refine q_Ev.ofW rfl ?_
  show q_Wp X _ 40 (0, [some (.ref 0)], [], M) _
  refine q_Wp.gn 2 (c' := (7, [some (.ref 0)], [.int (M.1 23 0)], M)) rfl ?_
  refine q_Wp.cv (c' := (7, [some (.ref 0)], [.int 0], M)) (by first | rw [hon] | simp only [hon]) ?_
  refine q_Wp.gn 1 (c' := (19, [some (.ref 0)], [.int (-2)], M)) rfl ?_
  exact q_Wp.rt rfl rfl ⟨by rfl, by rfl⟩

set_option maxRecDepth 10000 in
theorem c_end_no (X : q_X) (d : Nat) {n A t : Nat} {fa : Nat → Nat → Nat} {wn ft : Nat → Bool} (hn : n ≤ 10) (hA : A < 2 ^ n) (ht : t ≤ 6) (M : q_M) (hon : M.1 23 0 = 1) (hs : x_set n fa wn ft M) (hAM : M.1 23 3 = nI A) (hT : M.1 23 2 = nI t) (hd : (s_done (ft A) (s_sureX (M.1 (27 + t)) (M.1 13 1) (M.1 13 2)) (s_xm n fa ft A)) = 0) : q_Ev X (d + 6) 40 [.ref 0] M (some (.int (-2))) (M) := by
  refine q_Ev.ofW rfl ?_
  show q_Wp X _ 40 (0, [some (.ref 0)], [], M) _
  refine q_Wp.gn 2 (c' := (7, [some (.ref 0)], [.int (M.1 23 0)], M)) rfl ?_
  refine q_Wp.cv (c' := (7, [some (.ref 0)], [.int 1], M)) (by first | rw [hon] | simp only [hon]) ?_
  refine q_Wp.gc 2 (mj := 50) (as := [.ref 0]) (pc := 14) (ls := [some (.ref 0)]) (st := []) (M := M) (r1 := some (.int (s_done (ft A) (s_sureX (M.1 (27 + t)) (M.1 13 1) (M.1 13 2)) (s_xm n fa ft A)))) (M1 := M) rfl (c_doneness X d (n := n) (A := A) (t := t) (fa := fa) (wn := wn) (ft := ft) hn hA ht M hs hAM hT) ?_
  show q_Wp X _ 40 (14, [some (.ref 0)], [.int (s_done (ft A) (s_sureX (M.1 (27 + t)) (M.1 13 1) (M.1 13 2)) (s_xm n fa ft A))], M) _
  refine q_Wp.gd 0 (¬ (s_done (ft A) (s_sureX (M.1 (27 + t)) (M.1 13 1) (M.1 13 2)) (s_xm n fa ft A)) = 0) (c1 := (20, [some (.ref 0)], [], M)) (c2 := (17, [some (.ref 0)], [], M)) rfl (fun z => absurd z (fun y => y hd)) (fun _ => ?_)
  refine q_Wp.gn 0 (c' := (19, [some (.ref 0)], [.int (-2)], M)) rfl ?_
  exact q_Wp.rt rfl rfl ⟨by rfl, by rfl⟩

set_option maxRecDepth 10000 in
theorem c_end_ok (X : q_X) (d : Nat) {n A t : Nat} {fa : Nat → Nat → Nat} {wn ft : Nat → Bool} (hn : n ≤ 10) (hA : A < 2 ^ n) (ht : t ≤ 6) (M : q_M) (hon : M.1 23 0 = 1) (hs : x_set n fa wn ft M) (hAM : M.1 23 3 = nI A) (hT : M.1 23 2 = nI t) (hd : ¬ (s_done (ft A) (s_sureX (M.1 (27 + t)) (M.1 13 1) (M.1 13 2)) (s_xm n fa ft A)) = 0) : q_Ev X (d + 6) 40 [.ref 0] M (some (.int (nI (s_bst (M.1 (27 + t)) 6)))) (q_up (q_up M 23 0 0) 23 1 (M.1 23 1 + 1)) := by
  refine q_Ev.ofW rfl ?_
  show q_Wp X _ 40 (0, [some (.ref 0)], [], M) _
  refine q_Wp.gn 2 (c' := (7, [some (.ref 0)], [.int (M.1 23 0)], M)) rfl ?_
  refine q_Wp.cv (c' := (7, [some (.ref 0)], [.int 1], M)) (by first | rw [hon] | simp only [hon]) ?_
  refine q_Wp.gc 2 (mj := 50) (as := [.ref 0]) (pc := 14) (ls := [some (.ref 0)]) (st := []) (M := M) (r1 := some (.int (s_done (ft A) (s_sureX (M.1 (27 + t)) (M.1 13 1) (M.1 13 2)) (s_xm n fa ft A)))) (M1 := M) rfl (c_doneness X d (n := n) (A := A) (t := t) (fa := fa) (wn := wn) (ft := ft) hn hA ht M hs hAM hT) ?_
  show q_Wp X _ 40 (14, [some (.ref 0)], [.int (s_done (ft A) (s_sureX (M.1 (27 + t)) (M.1 13 1) (M.1 13 2)) (s_xm n fa ft A))], M) _
  refine q_Wp.gd 0 (¬ (s_done (ft A) (s_sureX (M.1 (27 + t)) (M.1 13 1) (M.1 13 2)) (s_xm n fa ft A)) = 0) (c1 := (20, [some (.ref 0)], [], M)) (c2 := (17, [some (.ref 0)], [], M)) rfl (fun _ => ?_) (fun z => absurd hd z)
  refine q_Wp.gc 13 (mj := 23) (as := [.ref 23]) (pc := 48) (ls := [some (.ref 0)]) (st := []) (M := q_up (q_up M 23 0 0) 23 1 ((M.1 23 1) + 1)) (r1 := some (.ref (27 + t))) (M1 := q_up (q_up M 23 0 0) 23 1 ((M.1 23 1) + 1)) rfl (c_weights X (d + 2) (by omega) (q_up (q_up M 23 0 0) 23 1 ((M.1 23 1) + 1)) hT) ?_
  show q_Wp X _ 40 (48, [some (.ref 0)], [.ref (27 + t)], q_up (q_up M 23 0 0) 23 1 ((M.1 23 1) + 1)) _
  refine q_Wp.gc 0 (mj := 60) (as := [.ref (27 + t)]) (pc := 51) (ls := [some (.ref 0)]) (st := []) (M := q_up (q_up M 23 0 0) 23 1 ((M.1 23 1) + 1)) (r1 := some (.int (nI (s_bst ((q_up (q_up M 23 0 0) 23 1 ((M.1 23 1) + 1)).1 (27 + t)) 6)))) (M1 := q_up (q_up M 23 0 0) 23 1 ((M.1 23 1) + 1)) rfl (c_likeliest X (d + 4) (q_kd_rows (q := t) (by omega)) (q_up (q_up M 23 0 0) 23 1 ((M.1 23 1) + 1))) ?_
  show q_Wp X _ 40 (51, [some (.ref 0)], [.int (nI (s_bst ((q_up (q_up M 23 0 0) 23 1 ((M.1 23 1) + 1)).1 (27 + t)) 6))], q_up (q_up M 23 0 0) 23 1 ((M.1 23 1) + 1)) _
  exact q_Wp.rt rfl rfl ⟨by rw [q_up_ne _ _ _ (by omega), q_up_ne _ _ _ (by omega)], by rfl⟩

set_option maxRecDepth 10000 in
theorem c_back_off (X : q_X) (d : Nat)  (M : q_M) (hon : M.1 23 0 = 0) : q_Ev X (d + 4) 39 [.ref 0] M (some (.int (-2))) (M) := by
  refine q_Ev.ofW rfl ?_
  show q_Wp X _ 39 (0, [some (.ref 0)], [], M) _
  refine q_Wp.gn 2 (c' := (7, [some (.ref 0)], [.int (M.1 23 0)], M)) rfl ?_
  refine q_Wp.cv (c' := (7, [some (.ref 0)], [.int 0], M)) (by first | rw [hon] | simp only [hon]) ?_
  refine q_Wp.gn 1 (c' := (22, [some (.ref 0)], [.int (-2)], M)) rfl ?_
  exact q_Wp.rt rfl rfl ⟨by rfl, by rfl⟩

set_option maxRecDepth 10000 in
theorem c_back_no (X : q_X) (d : Nat)  (M : q_M) (hon : M.1 23 0 = 1) (hT : M.1 23 2 = 0) : q_Ev X (d + 4) 39 [.ref 0] M (some (.int (-2))) (M) := by
  refine q_Ev.ofW rfl ?_
  show q_Wp X _ 39 (0, [some (.ref 0)], [], M) _
  refine q_Wp.gn 2 (c' := (7, [some (.ref 0)], [.int (M.1 23 0)], M)) rfl ?_
  refine q_Wp.cv (c' := (7, [some (.ref 0)], [.int 1], M)) (by first | rw [hon] | simp only [hon]) ?_
  refine q_Wp.gn 3 (c' := (17, [some (.ref 0)], [.int (M.1 23 2)], M)) rfl ?_
  refine q_Wp.cv (c' := (17, [some (.ref 0)], [.int 0], M)) (by first | rw [hT] | simp only [hT]) ?_
  refine q_Wp.gn 1 (c' := (22, [some (.ref 0)], [.int (-2)], M)) rfl ?_
  exact q_Wp.rt rfl rfl ⟨by rfl, by rfl⟩

set_option maxRecDepth 10000 in
theorem c_back_ok (X : q_X) (d : Nat) {n t A k : Nat} (hn : n ≤ 10) (ht : t ≤ 5) (hA : A < 1024) (hk : k < n) (hkA : A.testBit k = false) (M : q_M) (hsz : M.1 1 0 = nI n) (hon : M.1 23 0 = 1) (hT : M.1 23 2 = nI (t + 1)) (hAM : M.1 23 3 = nI (A ||| 2 ^ k)) (hQ : M.1 24 t = nI k) : q_Ev X (d + 4) 39 [.ref 0] M (some (.int (nI t))) (q_up (q_up (q_up M 23 2 (nI t)) 23 3 (nI A)) (3 + k) 4 (M.1 (3 + k) 4 + (-1))) := by
  refine q_Ev.ofW rfl ?_
  show q_Wp X _ 39 (0, [some (.ref 0)], [], M) _
  have hk10 : k < 10 := by omega
  have e33 : (q_up (q_up M 23 2 (nI t)) 23 3 (nI A)).1 (3 + k) 4 = M.1 (3 + k) 4 := by rw [q_up_ne _ _ _ (by omega), q_up_ne _ _ _ (by omega)]
  refine q_Wp.gn 2 (c' := (7, [some (.ref 0)], [.int (M.1 23 0)], M)) rfl ?_
  refine q_Wp.cv (c' := (7, [some (.ref 0)], [.int 1], M)) (by first | rw [hon] | simp only [hon]) ?_
  refine q_Wp.gn 3 (c' := (17, [some (.ref 0)], [.int (M.1 23 2)], M)) rfl ?_
  refine q_Wp.cv (c' := (17, [some (.ref 0)], [.int (nI (t + 1))], M)) (by first | rw [hT] | simp only [hT]) ?_
  refine q_Wp.gd 0 (0 < (nI (t + 1))) (c1 := (23, [some (.ref 0)], [], M)) (c2 := (20, [some (.ref 0)], [], M)) rfl (fun h1 => ?_) (fun h1 => ?_)
  · -- t
    have h1 : 0 < (t + 1) := (nI_ltI (a := 0) (b := (t + 1)) (by omega) (by omega)).mp h1
    refine q_Wp.gc 4 (mj := 27) (as := [.ref 23]) (pc := 34) (ls := [some (.ref 0)]) (st := [.ref 1]) (M := M) (r1 := some (.int (nI k))) (M1 := q_up (q_up M 23 2 (nI t)) 23 3 (nI A)) rfl (c_takeLatest X (d + 1) (t := t) (A := A) (q := k) ht hA hk10 hkA M hT hAM hQ) ?_
    show q_Wp X _ 39 (34, [some (.ref 0)], [.int (nI k), .ref 1], q_up (q_up M 23 2 (nI t)) 23 3 (nI A)) _
    refine q_Wp.gc 1 (mj := 6) (as := [.ref 1, .int (nI k), .int (-1)]) (pc := 38) (ls := [some (.ref 0)]) (st := []) (M := q_up (q_up M 23 2 (nI t)) 23 3 (nI A)) (r1 := none) (M1 := q_up (q_up (q_up M 23 2 (nI t)) 23 3 (nI A)) (3 + k) 4 ((q_up (q_up M 23 2 (nI t)) 23 3 (nI A)).1 (3 + k) 4 + (-1))) rfl (c_changeShown X d (-1) (q_up (q_up M 23 2 (nI t)) 23 3 (nI A)) (n := n) hsz hk hn) ?_
    show q_Wp X _ 39 (38, [some (.ref 0)], [], q_up (q_up (q_up M 23 2 (nI t)) 23 3 (nI A)) (3 + k) 4 ((q_up (q_up M 23 2 (nI t)) 23 3 (nI A)).1 (3 + k) 4 + (-1))) _
    refine q_Wp.cv (c' := (38, [some (.ref 0)], [], q_up (q_up (q_up M 23 2 (nI t)) 23 3 (nI A)) (3 + k) 4 (M.1 (3 + k) 4 + (-1)))) (by first | rw [e33] | simp only [e33]) ?_
    refine q_Wp.gn 2 (c' := (45, [some (.ref 0)], [.int ((q_up (q_up (q_up M 23 2 (nI t)) 23 3 (nI A)) (3 + k) 4 (M.1 (3 + k) 4 + (-1))).1 23 2)], q_up (q_up (q_up M 23 2 (nI t)) 23 3 (nI A)) (3 + k) 4 (M.1 (3 + k) 4 + (-1)))) rfl ?_
    exact q_Wp.rt rfl rfl ⟨by rw [q_up_ne _ _ _ (by omega)]; rfl, by rfl⟩
  · -- f
    have h1 : ¬ 0 < (t + 1) := fun z => h1 ((nI_ltI (a := 0) (b := (t + 1)) (by omega) (by omega)).mpr z)
    exact absurd h1 (by omega)

