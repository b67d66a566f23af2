/-! Contracts: the calls of the model, begin, next, answer (by program: wip/whole/c30.py) -/
set_option maxRecDepth 10000 in
theorem m_fit_on (X : q_X) (d : Nat)  (M : q_M) (hon : M.1 34 13 = 1) : q_Ev X (d + 5) 81 [.ref 34] M (some (.int (-2))) (M) := by
  refine q_Ev.ofW rfl ?_
  show q_Wp X _ 81 (0, [some (.ref 34)], [], M) _
  refine q_Wp.gn 1 (c' := (4, [some (.ref 34)], [.int (M.1 34 13)], M)) rfl ?_
  refine q_Wp.cv (c' := (4, [some (.ref 34)], [.int 1], M)) (by first | rw [hon] | simp only [hon]) ?_
  refine q_Wp.gn 2 (c' := (16, [some (.ref 34)], [.int (-2)], M)) rfl ?_
  exact q_Wp.rt rfl rfl ⟨by rfl, by rfl⟩

set_option maxRecDepth 10000 in
theorem m_fit_off (X : q_X) (d : Nat) {n : Nat} {fa : Nat → Nat → Nat} {sh : Nat → Int32} (hO : ok_bank n fa) (M : q_M) (hB : m_bank n fa sh M) (hon : M.1 34 13 = 0) : q_Ep X (d + 5) 81 [.ref 34] M (fun r M' => r = some (.int (nI (s_ct (2 ^ n) (s_mf n fa sh (M.1 41) (M.1 42) (M.1 34 7))))) ∧ ∀ r, r ≠ 47 → r ≠ 48 → M'.1 r = M.1 r) := by
  refine q_Ep.ofW rfl ?_
  show q_Wp X _ 81 (0, [some (.ref 34)], [], M) _
  refine q_Wp.gn 1 (c' := (4, [some (.ref 34)], [.int (M.1 34 13)], M)) rfl ?_
  refine q_Wp.cv (c' := (4, [some (.ref 34)], [.int 0], M)) (by first | rw [hon] | simp only [hon]) ?_
  refine q_Wp.gp 2 (mj := 80) (as := [.ref 34]) (pc := 16) (ls := [some (.ref 34)]) (st := []) (M := M) rfl (c_findFits X d (n := n) (fa := fa) (sh := sh) hO M hB) (fun r1 M2 hp3 => ?_)
  obtain ⟨rfl, hf1, hf2, hf3, hf4⟩ := hp3
  show q_Wp X _ 81 (16, [some (.ref 34)], [.int (nI (s_ct (2 ^ n) (s_mf n fa sh (M.1 41) (M.1 42) (M.1 34 7))))], M2) _
  exact q_Wp.rt rfl rfl ⟨rfl, hf2⟩

set_option maxRecDepth 10000 in
theorem m_begin_on (X : q_X) (d : Nat)  (M : q_M) (hon : M.1 34 13 = 1) : q_Ev X (d + 5) 86 [.ref 34] M (some (.int (-2))) (M) := by
  refine q_Ev.ofW rfl ?_
  show q_Wp X _ 86 (0, [some (.ref 34), none], [], M) _
  refine q_Wp.gn 1 (c' := (4, [some (.ref 34), none], [.int (M.1 34 13)], M)) rfl ?_
  refine q_Wp.cv (c' := (4, [some (.ref 34), none], [.int 1], M)) (by first | rw [hon] | simp only [hon]) ?_
  refine q_Wp.gn 1 (c' := (16, [some (.ref 34), none], [.int (-2)], M)) rfl ?_
  exact q_Wp.rt rfl rfl ⟨by rfl, by rfl⟩

set_option maxRecDepth 10000 in
theorem m_begin_off (X : q_X) (d : Nat) {n : Nat} {fa : Nat → Nat → Nat} {sh : Nat → Int32} (hO : ok_bank n fa) (M : q_M) (hB : m_bank n fa sh M) (hon : M.1 34 13 = 0) : q_Ep X (d + 5) 86 [.ref 34] M (fun r M' => (s_ct (2 ^ n) (s_mf n fa sh (M.1 41) (M.1 42) (M.1 34 7)) = 0 ∧ r = some (.int (-2)) ∧ ∀ r, r ≠ 47 → r ≠ 48 → M'.1 r = M.1 r) ∨ (¬ s_ct (2 ^ n) (s_mf n fa sh (M.1 41) (M.1 42) (M.1 34 7)) = 0 ∧ r = some (.int (nI (s_ct n (s_may n fa (s_can (s_mf n fa sh (M.1 41) (M.1 42) (M.1 34 7)) n) 0)))) ∧ (∀ r, r ≠ 34 → r ≠ 46 → r ≠ 47 → r ≠ 48 → M'.1 r = M.1 r) ∧ (∀ k, k ≠ 13 → k ≠ 15 → M'.1 34 k = M.1 34 k) ∧ M'.1 34 13 = 1 ∧ M'.1 34 15 = 0 ∧ (∀ U, U < 2 ^ n → M'.1 47 U = q_b ((s_mf n fa sh (M.1 41) (M.1 42) (M.1 34 7)) U)) ∧ (∀ U, U < 2 ^ n → M'.1 48 U = q_b (s_can (s_mf n fa sh (M.1 41) (M.1 42) (M.1 34 7)) n U)) ∧ ∀ s, s < 6 → M'.1 46 s = M.1 43 s)) := by
  refine q_Ep.ofW rfl ?_
  show q_Wp X _ 86 (0, [some (.ref 34), none], [], M) _
  have hn := hO.1
  have hpn := s_pw hn
  have hcl := s_ct_le (s_mf n fa sh (M.1 41) (M.1 42) (M.1 34 7)) (2 ^ n)
  refine q_Wp.gn 1 (c' := (4, [some (.ref 34), none], [.int (M.1 34 13)], M)) rfl ?_
  refine q_Wp.cv (c' := (4, [some (.ref 34), none], [.int 0], M)) (by first | rw [hon] | simp only [hon]) ?_
  refine q_Wp.gp 2 (mj := 80) (as := [.ref 34]) (pc := 11) (ls := [some (.ref 34), none]) (st := []) (M := M) rfl (c_findFits X d (n := n) (fa := fa) (sh := sh) hO M hB) (fun r1 M2 hp3 => ?_)
  obtain ⟨rfl, hf1, hf2, hf3, hf4⟩ := hp3
  show q_Wp X _ 86 (11, [some (.ref 34), none], [.int (nI (s_ct (2 ^ n) (s_mf n fa sh (M.1 41) (M.1 42) (M.1 34 7))))], M2) _
  refine q_Wp.gd 0 (¬ (nI (s_ct (2 ^ n) (s_mf n fa sh (M.1 41) (M.1 42) (M.1 34 7)))) = 0) (c1 := (17, [some (.ref 34), none], [], M2)) (c2 := (14, [some (.ref 34), none], [], M2)) rfl (fun h4 => ?_) (fun h4 => ?_)
  · -- t
    have h4 : ¬ (s_ct (2 ^ n) (s_mf n fa sh (M.1 41) (M.1 42) (M.1 34 7))) = 0 := fun z => h4 ((nI_eq (a := (s_ct (2 ^ n) (s_mf n fa sh (M.1 41) (M.1 42) (M.1 34 7)))) (b := 0) (by omega) (by omega)).mpr z)
    refine q_Wp.gc 90 (mj := 85) (as := [.ref 34]) (pc := 57) (ls := [some (.ref 34), some (.int 6)]) (st := []) (M := q_up (q_up (q_up (q_up (q_up (q_up (q_up (q_up M2 34 13 1) 34 15 0) 46 0 (M2.1 43 0)) 46 1 (M2.1 43 1)) 46 2 (M2.1 43 2)) 46 3 (M2.1 43 3)) 46 4 (M2.1 43 4)) 46 5 (M2.1 43 5)) (r1 := some (.int (nI (s_ct n (s_may n fa (s_can (s_mf n fa sh (M.1 41) (M.1 42) (M.1 34 7)) n) 0))))) (M1 := q_up (q_up (q_up (q_up (q_up (q_up (q_up (q_up M2 34 13 1) 34 15 0) 46 0 (M2.1 43 0)) 46 1 (M2.1 43 1)) 46 2 (M2.1 43 2)) 46 3 (M2.1 43 3)) 46 4 (M2.1 43 4)) 46 5 (M2.1 43 5)) rfl (c_mayMany X d (n := n) (t := 0) (fa := fa) (sh := sh) (od := fun _ => 0) (A := fun _ => 0) (cn := s_can (s_mf n fa sh (M.1 41) (M.1 42) (M.1 34 7)) n) hO ⟨by omega, rfl, fun i hi => absurd hi (by omega)⟩ (Nat.two_pow_pos n) (q_up (q_up (q_up (q_up (q_up (q_up (q_up (q_up M2 34 13 1) 34 15 0) 46 0 (M2.1 43 0)) 46 1 (M2.1 43 1)) 46 2 (M2.1 43 2)) 46 3 (M2.1 43 3)) 46 4 (M2.1 43 4)) 46 5 (M2.1 43 5)) (hB.keep (congrFun (hf2 34 (by decide) (by decide)) 0) (fun r h1 h2 => by rw [q_up_ne _ _ _ (by omega), q_up_ne _ _ _ (by omega), q_up_ne _ _ _ (by omega), q_up_ne _ _ _ (by omega), q_up_ne _ _ _ (by omega), q_up_ne _ _ _ (by omega), q_up_ne _ _ _ (by omega), q_up_ne _ _ _ (by omega)]; exact hf2 r (by omega) (by omega))) (fun U hU => hf4 U hU) ⟨rfl, fun i hi => absurd hi (by omega)⟩) ?_
    show q_Wp X _ 86 (57, [some (.ref 34), some (.int 6)], [.int (nI (s_ct n (s_may n fa (s_can (s_mf n fa sh (M.1 41) (M.1 42) (M.1 34 7)) n) 0)))], q_up (q_up (q_up (q_up (q_up (q_up (q_up (q_up M2 34 13 1) 34 15 0) 46 0 (M2.1 43 0)) 46 1 (M2.1 43 1)) 46 2 (M2.1 43 2)) 46 3 (M2.1 43 3)) 46 4 (M2.1 43 4)) 46 5 (M2.1 43 5)) _
    refine q_Wp.rt rfl rfl ?_
    refine Or.inr ⟨h4, rfl, fun r h1 h2 h3 h4 => ?_, fun k h1 h2 => ?_, rfl, rfl, fun U hU => hf3 U hU, fun U hU => hf4 U hU, fun s hs => ?_⟩
    · rw [q_up_ne _ _ _ h2, q_up_ne _ _ _ h2, q_up_ne _ _ _ h2, q_up_ne _ _ _ h2, q_up_ne _ _ _ h2, q_up_ne _ _ _ h2, q_up_ne _ _ _ h1, q_up_ne _ _ _ h1]; exact hf2 r h3 h4
    · rw [q_up_ne _ _ _ (by decide), q_up_ne _ _ _ (by decide), q_up_ne _ _ _ (by decide), q_up_ne _ _ _ (by decide), q_up_ne _ _ _ (by decide), q_up_ne _ _ _ (by decide), q_up_o _ _ _ h2, q_up_o _ _ _ h1]; exact congrFun (hf2 34 (by decide) (by decide)) k
    · rw [← hf2 43 (by decide) (by decide)]; rcases (show s = 0 ∨ s = 1 ∨ s = 2 ∨ s = 3 ∨ s = 4 ∨ s = 5 by omega) with h | h | h | h | h | h <;> subst h <;> rfl
  · -- f
    have h4 : (s_ct (2 ^ n) (s_mf n fa sh (M.1 41) (M.1 42) (M.1 34 7))) = 0 := (nI_eq (a := (s_ct (2 ^ n) (s_mf n fa sh (M.1 41) (M.1 42) (M.1 34 7)))) (b := 0) (by omega) (by omega)).mp (Classical.byContradiction h4)
    refine q_Wp.gn 0 (c' := (16, [some (.ref 34), none], [.int (-2)], M2)) rfl ?_
    refine q_Wp.rt rfl rfl ?_
    exact Or.inl ⟨h4, rfl, hf2⟩

set_option maxRecDepth 10000 in
theorem m_done_off (X : q_X) (d : Nat)  (M : q_M) (hon : M.1 34 13 = 0) : q_Ev X (d + 6) 102 [.ref 34] M (some (.int (-2))) (M) := by
  refine q_Ev.ofW rfl ?_
  show q_Wp X _ 102 (0, [some (.ref 34)], [], M) _
  refine q_Wp.gn 1 (c' := (4, [some (.ref 34)], [.int (M.1 34 13)], M)) rfl ?_
  refine q_Wp.cv (c' := (4, [some (.ref 34)], [.int 0], M)) (by first | rw [hon] | simp only [hon]) ?_
  refine q_Wp.gn 1 (c' := (16, [some (.ref 34)], [.int (-2)], M)) rfl ?_
  exact q_Wp.rt rfl rfl ⟨by rfl, by rfl⟩

set_option maxRecDepth 10000 in
theorem m_done_on (X : q_X) (d : Nat) {n t : Nat} {fa : Nat → Nat → Nat} {sh : Nat → Int32} {od A : Nat → Nat} {ft cn : Nat → Bool} (hO : ok_bank n fa) (hA : ok_ask t od A) (hS : A t < 2 ^ n) (M : q_M) (hB : m_bank n fa sh M) (hon : M.1 34 13 = 1) (hF : ∀ U, U < 2 ^ n → M.1 47 U = q_b (ft U)) (hT : ∀ U, U < 2 ^ n → M.1 48 U = q_b (cn U)) (hQ : m_ask t od M) : q_Ev X (d + 6) 102 [.ref 34] M (some (.int (s_done (ft (A t)) (s_sureM (s_row M t) (M.1 34 10) (M.1 34 11)) (s_ct n (s_may n fa cn (A t)))))) (M) := by
  refine q_Ev.ofW rfl ?_
  show q_Wp X _ 102 (0, [some (.ref 34)], [], M) _
  refine q_Wp.gn 1 (c' := (4, [some (.ref 34)], [.int (M.1 34 13)], M)) rfl ?_
  refine q_Wp.cv (c' := (4, [some (.ref 34)], [.int 1], M)) (by first | rw [hon] | simp only [hon]) ?_
  refine q_Wp.gc 2 (mj := 94) (as := [.ref 34]) (pc := 11) (ls := [some (.ref 34)]) (st := []) (M := M) (r1 := some (.int (s_done (ft (A t)) (s_sureM (s_row M t) (M.1 34 10) (M.1 34 11)) (s_ct n (s_may n fa cn (A t)))))) (M1 := M) rfl (c_doneNow X d (n := n) (t := t) (fa := fa) (sh := sh) (od := od) (A := A) (ft := ft) (cn := cn) hO hA hS M hB hF hT hQ) ?_
  show q_Wp X _ 102 (11, [some (.ref 34)], [.int (s_done (ft (A t)) (s_sureM (s_row M t) (M.1 34 10) (M.1 34 11)) (s_ct n (s_may n fa cn (A t))))], M) _
  refine q_Wp.gn 0 (c' := (16, [some (.ref 34)], [.int (s_done (ft (A t)) (s_sureM (s_row M t) (M.1 34 10) (M.1 34 11)) (s_ct n (s_may n fa cn (A t))))], M)) rfl ?_
  exact q_Wp.rt rfl rfl ⟨by rfl, by rfl⟩

set_option maxRecDepth 10000 in
theorem m_next_off (X : q_X) (d : Nat)  (M : q_M) (hon : M.1 34 13 = 0) : q_Ev X (d + 6) 95 [.ref 34] M (some (.int (-2))) (M) := by
  refine q_Ev.ofW rfl ?_
  show q_Wp X _ 95 (0, [some (.ref 34), none, none, none], [], M) _
  refine q_Wp.gn 1 (c' := (4, [some (.ref 34), none, none, none], [.int (M.1 34 13)], M)) rfl ?_
  refine q_Wp.cv (c' := (4, [some (.ref 34), none, none, none], [.int 0], M)) (by first | rw [hon] | simp only [hon]) ?_
  refine q_Wp.gn 1 (c' := (9, [some (.ref 34), none, none, none], [.int (-2)], M)) rfl ?_
  exact q_Wp.rt rfl rfl ⟨by rfl, by rfl⟩

set_option maxRecDepth 10000 in
theorem m_next_done (X : q_X) (d : Nat) {n t : Nat} {fa : Nat → Nat → Nat} {sh : Nat → Int32} {od A : Nat → Nat} {ft cn : Nat → Bool} (hO : ok_bank n fa) (hA : ok_ask t od A) (hS : A t < 2 ^ n) (M : q_M) (hB : m_bank n fa sh M) (hon : M.1 34 13 = 1) (hF : ∀ U, U < 2 ^ n → M.1 47 U = q_b (ft U)) (hT : ∀ U, U < 2 ^ n → M.1 48 U = q_b (cn U)) (hQ : m_ask t od M) (hd : ¬ (s_done (ft (A t)) (s_sureM (s_row M t) (M.1 34 10) (M.1 34 11)) (s_ct n (s_may n fa cn (A t)))) ≤ 0) : q_Ev X (d + 6) 95 [.ref 34] M (some (.int (-9))) (M) := by
  refine q_Ev.ofW rfl ?_
  show q_Wp X _ 95 (0, [some (.ref 34), none, none, none], [], M) _
  refine q_Wp.gn 1 (c' := (4, [some (.ref 34), none, none, none], [.int (M.1 34 13)], M)) rfl ?_
  refine q_Wp.cv (c' := (4, [some (.ref 34), none, none, none], [.int 1], M)) (by first | rw [hon] | simp only [hon]) ?_
  refine q_Wp.gc 2 (mj := 94) (as := [.ref 34]) (pc := 14) (ls := [some (.ref 34), none, none, none]) (st := []) (M := M) (r1 := some (.int (s_done (ft (A t)) (s_sureM (s_row M t) (M.1 34 10) (M.1 34 11)) (s_ct n (s_may n fa cn (A t)))))) (M1 := M) rfl (c_doneNow X d (n := n) (t := t) (fa := fa) (sh := sh) (od := od) (A := A) (ft := ft) (cn := cn) hO hA hS M hB hF hT hQ) ?_
  show q_Wp X _ 95 (14, [some (.ref 34), none, none, none], [.int (s_done (ft (A t)) (s_sureM (s_row M t) (M.1 34 10) (M.1 34 11)) (s_ct n (s_may n fa cn (A t))))], M) _
  refine q_Wp.gd 0 ((s_done (ft (A t)) (s_sureM (s_row M t) (M.1 34 10) (M.1 34 11)) (s_ct n (s_may n fa cn (A t)))) ≤ 0) (c1 := (20, [some (.ref 34), none, none, none], [], M)) (c2 := (17, [some (.ref 34), none, none, none], [], M)) rfl (fun z => absurd z hd) (fun _ => ?_)
  refine q_Wp.gn 0 (c' := (19, [some (.ref 34), none, none, none], [.int (-9)], M)) rfl ?_
  exact q_Wp.rt rfl rfl ⟨by rfl, by rfl⟩

def m_gain (n t : Nat) (T B : Nat → Nat) (M : q_M) : Prop := ∀ q, q < n → s_topM (s_row M t) (M.1 35 q) (fun s => M.1 40 (6 * q + s)) = lN (T q) ∧ T q < 9223372036854775808 ∧ s_botM (s_row M t) (M.1 35 q) (fun s => M.1 40 (6 * q + s)) = lN (B q) ∧ B q < 9223372036854775808 ∧ 0 < B q
theorem m_gain.keep {n t : Nat} {T B : Nat → Nat} {M M' : q_M} (h : m_gain n t T B M) (ht : t ≤ 6) (hf : ∀ r, r ≠ 46 → M'.1 r = M.1 r) (hw : ∀ j, j < 60 → M'.1 46 j = M.1 46 j) : m_gain n t T B M' := by
  intro q hq
  have e : ∀ s, s < 6 → s_row M' t s = s_row M t s := fun s hs => hw _ (by omega)
  rw [s_topM_c e, s_botM_c e, hf 35 (by decide), hf 40 (by decide)]
  exact h q hq
def s_fins (n : Nat) (T B : Nat → Nat) : Prop := ∀ q p, q < n → p < n → s_fin 100 (T q) (B q) (T p) (B p)
set_option maxRecDepth 10000 in
theorem m_next_on (X : q_X) (d : Nat) {n t : Nat} {fa : Nat → Nat → Nat} {sh : Nat → Int32} {od A : Nat → Nat} {ft cn : Nat → Bool} (hO : ok_bank n fa) (hA : ok_ask t od A) (hS : A t < 2 ^ n) {T B : Nat → Nat} {K : Nat} (hK : ∀ q, q < n → K.testBit q = s_may n fa cn (A t) q) (hfin : s_fins n T B) (M : q_M) (hB : m_bank n fa sh M) (hon : M.1 34 13 = 1) (hF : ∀ U, U < 2 ^ n → M.1 47 U = q_b (ft U)) (hT : ∀ U, U < 2 ^ n → M.1 48 U = q_b (cn U)) (hQ : m_ask t od M) (hG : m_gain n t T B M) (hd : (s_done (ft (A t)) (s_sureM (s_row M t) (M.1 34 10) (M.1 34 11)) (s_ct n (s_may n fa cn (A t)))) ≤ 0) : q_Ep X (d + 6) 95 [.ref 34] M (fun r M' => r = some (.int (s_ov (s_nx K T B n))) ∧ (∀ r, r ≠ 46 → M'.1 r = M.1 r) ∧ ∀ j, j < 60 → M'.1 46 j = M.1 46 j) := by
  refine q_Ep.ofW rfl ?_
  show q_Wp X _ 95 (0, [some (.ref 34), none, none, none], [], M) _
  have hn := hO.1
  have ht := hA.1
  have key : ∀ (kz : Nat) (i : Nat) (b : Option Nat) (Mi : q_M), i ≤ n → b = s_nx K T B i → (∀ r, r ≠ 46 → Mi.1 r = M.1 r) → (∀ j, j < 60 → Mi.1 46 j = M.1 46 j) → n - i < kz → q_Wp X (d + 5) 95 (30, [some (.ref 34), some (.int (nI (A t))), some (.int (s_ov b)), some (.int (nI i))], [], Mi) (fun r M' => r = some (.int (s_ov (s_nx K T B n))) ∧ (∀ r, r ≠ 46 → M'.1 r = M.1 r) ∧ ∀ j, j < 60 → M'.1 46 j = M.1 46 j) := by
    intro kz
    induction kz with
    | zero => intro i b Mi hi hb hI1 hI2 hm; exact absurd hm (by omega)
    | succ kz ih =>
      intro i b Mi hi hb hI1 hI2 hm
      have hBi : m_bank n fa sh Mi := hB.keep (congrFun (hI1 34 (by decide)) 0) (fun r h1 h2 => hI1 r (by omega))
      have hTi : ∀ U, U < 2 ^ n → Mi.1 48 U = q_b (cn U) := fun U hU => by rw [hI1 48 (by decide)]; exact hT U hU
      have hGi := hG.keep ht hI1 hI2
      cases b with
      | none =>
        show q_Wp X _ 95 (30, [some (.ref 34), some (.int (nI (A t))), some (.int (-9)), some (.int (nI i))], [], Mi) _
        refine q_Wp.gn 2 (c' := (35, [some (.ref 34), some (.int (nI (A t))), some (.int (-9)), some (.int (nI i))], [.int (Mi.1 34 0), .int (nI i)], Mi)) rfl ?_
        refine q_Wp.cv (c' := (35, [some (.ref 34), some (.int (nI (A t))), some (.int (-9)), some (.int (nI i))], [.int (nI n), .int (nI i)], Mi)) (by first | rw [hBi.1] | simp only [hBi.1]) ?_
        refine q_Wp.gd 0 ((nI n) ≤ (nI i)) (c1 := (68, [some (.ref 34), some (.int (nI (A t))), some (.int (-9)), some (.int (nI i))], [], Mi)) (c2 := (38, [some (.ref 34), some (.int (nI (A t))), some (.int (-9)), some (.int (nI i))], [], Mi)) rfl (fun g1 => ?_) (fun g1 => ?_)
        · -- t
          have g1 : n ≤ i := (nI_leI (a := n) (b := i) (by omega) (by omega)).mp g1
          refine q_Wp.gn 0 (c' := (69, [some (.ref 34), some (.int (nI (A t))), some (.int (-9)), some (.int (nI i))], [.int (-9)], Mi)) rfl ?_
          refine q_Wp.rt rfl rfl ?_
          (have e : i = n := by omega)
          subst e
          exact ⟨by rw [← hb]; rfl, hI1, hI2⟩
        · -- f
          have g1 : ¬ n ≤ i := fun z => g1 ((nI_leI (a := n) (b := i) (by omega) (by omega)).mpr z)
          refine q_Wp.gc 3 (mj := 84) (as := [.ref 34, .int (nI i), .int (nI (A t))]) (pc := 44) (ls := [some (.ref 34), some (.int (nI (A t))), some (.int (-9)), some (.int (nI i))]) (st := []) (M := Mi) (r1 := some (.int (q_b (s_may n fa cn (A t) i)))) (M1 := Mi) rfl (c_mayBe X (d + 2) (n := n) (S := (A t)) (q := i) (fa := fa) (sh := sh) (cn := cn) hO hS (by omega) Mi hBi hTi) ?_
          show q_Wp X _ 95 (44, [some (.ref 34), some (.int (nI (A t))), some (.int (-9)), some (.int (nI i))], [.int (q_b (s_may n fa cn (A t) i))], Mi) _
          refine q_Wp.cv (c' := (44, [some (.ref 34), some (.int (nI (A t))), some (.int (-9)), some (.int (nI i))], [.int (q_b (K.testBit i))], Mi)) (by first | rw [(hK i (by omega)).symm] | simp only [(hK i (by omega)).symm]) ?_
          refine q_Wp.ge0 0 (b := (K.testBit i)) (c1 := (62, [some (.ref 34), some (.int (nI (A t))), some (.int (-9)), some (.int (nI i))], [], Mi)) (c2 := (47, [some (.ref 34), some (.int (nI (A t))), some (.int (-9)), some (.int (nI i))], [], Mi)) rfl (fun g2 => ?_) (fun g2 => ?_)
          · -- ft
            refine q_Wp.gn 0 (c' := (65, [some (.ref 34), some (.int (nI (A t))), some (.int (-9)), some (.int ((nI i) + 1))], [], Mi)) rfl ?_
            refine q_Wp.cv (c' := (65, [some (.ref 34), some (.int (nI (A t))), some (.int (-9)), some (.int (nI (i + 1)))], [], Mi)) (by first | rw [nI_1] | simp only [nI_1]) ?_
            refine q_Wp.gn 0 (c' := (30, [some (.ref 34), some (.int (nI (A t))), some (.int (-9)), some (.int (nI (i + 1)))], [], Mi)) rfl ?_
            exact ih (i + 1) none _ (by omega) (by rw [s_nx, if_neg (by rw [g2]; decide)]; exact hb) hI1 hI2 (by omega)
          · -- ff
            refine q_Wp.gn 4 (c' := (65, [some (.ref 34), some (.int (nI (A t))), some (.int (nI i)), some (.int ((nI i) + 1))], [], Mi)) rfl ?_
            refine q_Wp.cv (c' := (65, [some (.ref 34), some (.int (nI (A t))), some (.int (nI i)), some (.int (nI (i + 1)))], [], Mi)) (by first | rw [nI_1] | simp only [nI_1]) ?_
            refine q_Wp.gn 0 (c' := (30, [some (.ref 34), some (.int (nI (A t))), some (.int (nI i)), some (.int (nI (i + 1)))], [], Mi)) rfl ?_
            exact ih (i + 1) (some i) _ (by omega) (by rw [s_nx, if_pos g2, ← hb]) hI1 hI2 (by omega)
      | some b =>
        have hbi : b < i := s_nx_lt hb.symm
        show q_Wp X _ 95 (30, [some (.ref 34), some (.int (nI (A t))), some (.int (nI b)), some (.int (nI i))], [], Mi) _
        refine q_Wp.gn 2 (c' := (35, [some (.ref 34), some (.int (nI (A t))), some (.int (nI b)), some (.int (nI i))], [.int (Mi.1 34 0), .int (nI i)], Mi)) rfl ?_
        refine q_Wp.cv (c' := (35, [some (.ref 34), some (.int (nI (A t))), some (.int (nI b)), some (.int (nI i))], [.int (nI n), .int (nI i)], Mi)) (by first | rw [hBi.1] | simp only [hBi.1]) ?_
        refine q_Wp.gd 0 ((nI n) ≤ (nI i)) (c1 := (68, [some (.ref 34), some (.int (nI (A t))), some (.int (nI b)), some (.int (nI i))], [], Mi)) (c2 := (38, [some (.ref 34), some (.int (nI (A t))), some (.int (nI b)), some (.int (nI i))], [], Mi)) rfl (fun g1 => ?_) (fun g1 => ?_)
        · -- t
          have g1 : n ≤ i := (nI_leI (a := n) (b := i) (by omega) (by omega)).mp g1
          refine q_Wp.gn 0 (c' := (69, [some (.ref 34), some (.int (nI (A t))), some (.int (nI b)), some (.int (nI i))], [.int (nI b)], Mi)) rfl ?_
          refine q_Wp.rt rfl rfl ?_
          (have e : i = n := by omega)
          subst e
          exact ⟨by rw [← hb]; rfl, hI1, hI2⟩
        · -- f
          have g1 : ¬ n ≤ i := fun z => g1 ((nI_leI (a := n) (b := i) (by omega) (by omega)).mpr z)
          refine q_Wp.gc 3 (mj := 84) (as := [.ref 34, .int (nI i), .int (nI (A t))]) (pc := 44) (ls := [some (.ref 34), some (.int (nI (A t))), some (.int (nI b)), some (.int (nI i))]) (st := []) (M := Mi) (r1 := some (.int (q_b (s_may n fa cn (A t) i)))) (M1 := Mi) rfl (c_mayBe X (d + 2) (n := n) (S := (A t)) (q := i) (fa := fa) (sh := sh) (cn := cn) hO hS (by omega) Mi hBi hTi) ?_
          show q_Wp X _ 95 (44, [some (.ref 34), some (.int (nI (A t))), some (.int (nI b)), some (.int (nI i))], [.int (q_b (s_may n fa cn (A t) i))], Mi) _
          refine q_Wp.cv (c' := (44, [some (.ref 34), some (.int (nI (A t))), some (.int (nI b)), some (.int (nI i))], [.int (q_b (K.testBit i))], Mi)) (by first | rw [(hK i (by omega)).symm] | simp only [(hK i (by omega)).symm]) ?_
          refine q_Wp.ge0 0 (b := (K.testBit i)) (c1 := (62, [some (.ref 34), some (.int (nI (A t))), some (.int (nI b)), some (.int (nI i))], [], Mi)) (c2 := (47, [some (.ref 34), some (.int (nI (A t))), some (.int (nI b)), some (.int (nI i))], [], Mi)) rfl (fun g2 => ?_) (fun g2 => ?_)
          · -- ft
            refine q_Wp.gn 0 (c' := (65, [some (.ref 34), some (.int (nI (A t))), some (.int (nI b)), some (.int ((nI i) + 1))], [], Mi)) rfl ?_
            refine q_Wp.cv (c' := (65, [some (.ref 34), some (.int (nI (A t))), some (.int (nI b)), some (.int (nI (i + 1)))], [], Mi)) (by first | rw [nI_1] | simp only [nI_1]) ?_
            refine q_Wp.gn 0 (c' := (30, [some (.ref 34), some (.int (nI (A t))), some (.int (nI b)), some (.int (nI (i + 1)))], [], Mi)) rfl ?_
            exact ih (i + 1) (some b) _ (by omega) (by rw [s_nx, if_neg (by rw [g2]; decide)]; exact hb) hI1 hI2 (by omega)
          · -- ff
            refine q_Wp.gd 1 ((nI b) < 0) (c1 := (60, [some (.ref 34), some (.int (nI (A t))), some (.int (nI b)), some (.int (nI i))], [], Mi)) (c2 := (51, [some (.ref 34), some (.int (nI (A t))), some (.int (nI b)), some (.int (nI i))], [], Mi)) rfl (fun g3 => ?_) (fun g3 => ?_)
            · -- fft
              have g3 : b < 0 := (nI_ltI (a := b) (b := 0) (by omega) (by omega)).mp g3
              exact absurd g3 (by omega)
            · -- fff
              have g3 : ¬ b < 0 := fun z => g3 ((nI_ltI (a := b) (b := 0) (by omega) (by omega)).mpr z)
              refine q_Wp.gp 3 (mj := 93) (as := [.ref 34, .int (nI i), .int (nI b)]) (pc := 57) (ls := [some (.ref 34), some (.int (nI (A t))), some (.int (nI b)), some (.int (nI i))]) (st := []) (M := Mi) rfl (c_besideGain X (d + 2) (k := i) (k2 := b) (t := t) (z := 100) ht (hGi _ (show i < n by omega)).2.1 (hGi _ (show i < n by omega)).2.2.2.1 (hGi _ (show b < n by omega)).2.1 (hGi _ (show b < n by omega)).2.2.2.1 (hGi _ (show i < n by omega)).2.2.2.2 (hGi _ (show b < n by omega)).2.2.2.2 (hfin _ _ (show i < n by omega) (show b < n by omega)) (by omega) (by omega) Mi ((congrFun (hI1 34 (by decide)) 15).trans hQ.1) (hGi _ (show i < n by omega)).1 (hGi _ (show i < n by omega)).2.2.1 (hGi _ (show b < n by omega)).1 (hGi _ (show b < n by omega)).2.2.1) (fun r4 M5 hp6 => ?_)
              obtain ⟨rfl, y1, y2⟩ := hp6
              show q_Wp X _ 95 (57, [some (.ref 34), some (.int (nI (A t))), some (.int (nI b)), some (.int (nI i))], [.int (s_cmp 100 (T i) (B i) (T b) (B b) 1)], M5) _
              refine q_Wp.gd 0 ((s_cmp 100 (T i) (B i) (T b) (B b) 1) ≤ 0) (c1 := (62, [some (.ref 34), some (.int (nI (A t))), some (.int (nI b)), some (.int (nI i))], [], M5)) (c2 := (60, [some (.ref 34), some (.int (nI (A t))), some (.int (nI b)), some (.int (nI i))], [], M5)) rfl (fun g7 => ?_) (fun g7 => ?_)
              · -- ffft
                refine q_Wp.gn 0 (c' := (65, [some (.ref 34), some (.int (nI (A t))), some (.int (nI b)), some (.int ((nI i) + 1))], [], M5)) rfl ?_
                refine q_Wp.cv (c' := (65, [some (.ref 34), some (.int (nI (A t))), some (.int (nI b)), some (.int (nI (i + 1)))], [], M5)) (by first | rw [nI_1] | simp only [nI_1]) ?_
                refine q_Wp.gn 0 (c' := (30, [some (.ref 34), some (.int (nI (A t))), some (.int (nI b)), some (.int (nI (i + 1)))], [], M5)) rfl ?_
                have e : s_gt T B i b = false := decide_eq_false (Int32.not_lt.mpr g7)
                exact ih (i + 1) (some b) _ (by omega) (by rw [s_nx, if_pos g2, ← hb]; simp [e]) (fun r hr => (y1 r hr).trans (hI1 r hr)) (fun j hj => (y2 j hj).trans (hI2 j hj)) (by omega)
              · -- ffff
                refine q_Wp.gn 2 (c' := (65, [some (.ref 34), some (.int (nI (A t))), some (.int (nI i)), some (.int ((nI i) + 1))], [], M5)) rfl ?_
                refine q_Wp.cv (c' := (65, [some (.ref 34), some (.int (nI (A t))), some (.int (nI i)), some (.int (nI (i + 1)))], [], M5)) (by first | rw [nI_1] | simp only [nI_1]) ?_
                refine q_Wp.gn 0 (c' := (30, [some (.ref 34), some (.int (nI (A t))), some (.int (nI i)), some (.int (nI (i + 1)))], [], M5)) rfl ?_
                have e : s_gt T B i b = true := decide_eq_true (Int32.not_le.mp g7)
                exact ih (i + 1) (some i) _ (by omega) (by rw [s_nx, if_pos g2, ← hb]; simp [e]) (fun r hr => (y1 r hr).trans (hI1 r hr)) (fun j hj => (y2 j hj).trans (hI2 j hj)) (by omega)
  refine q_Wp.gn 1 (c' := (4, [some (.ref 34), none, none, none], [.int (M.1 34 13)], M)) rfl ?_
  refine q_Wp.cv (c' := (4, [some (.ref 34), none, none, none], [.int 1], M)) (by first | rw [hon] | simp only [hon]) ?_
  refine q_Wp.gc 2 (mj := 94) (as := [.ref 34]) (pc := 14) (ls := [some (.ref 34), none, none, none]) (st := []) (M := M) (r1 := some (.int (s_done (ft (A t)) (s_sureM (s_row M t) (M.1 34 10) (M.1 34 11)) (s_ct n (s_may n fa cn (A t)))))) (M1 := M) rfl (c_doneNow X d (n := n) (t := t) (fa := fa) (sh := sh) (od := od) (A := A) (ft := ft) (cn := cn) hO hA hS M hB hF hT hQ) ?_
  show q_Wp X _ 95 (14, [some (.ref 34), none, none, none], [.int (s_done (ft (A t)) (s_sureM (s_row M t) (M.1 34 10) (M.1 34 11)) (s_ct n (s_may n fa cn (A t))))], M) _
  refine q_Wp.gd 0 ((s_done (ft (A t)) (s_sureM (s_row M t) (M.1 34 10) (M.1 34 11)) (s_ct n (s_may n fa cn (A t)))) ≤ 0) (c1 := (20, [some (.ref 34), none, none, none], [], M)) (c2 := (17, [some (.ref 34), none, none, none], [], M)) rfl (fun _ => ?_) (fun z => absurd hd z)
  refine q_Wp.gc 1 (mj := 82) (as := [.ref 34]) (pc := 24) (ls := [some (.ref 34), none, none, none]) (st := []) (M := M) (r1 := some (.int (nI (A t)))) (M1 := M) rfl (c_askedSet X (d + 4) (t := t) (od := od) (A := A) hA M hQ) ?_
  show q_Wp X _ 95 (24, [some (.ref 34), none, none, none], [.int (nI (A t))], M) _
  refine q_Wp.gn 4 (c' := (30, [some (.ref 34), some (.int (nI (A t))), some (.int (-9)), some (.int 0)], [], M)) rfl ?_
  exact key (n + 1) 0 none M (by omega) rfl (fun _ _ => rfl) (fun _ _ => rfl) (by omega)

