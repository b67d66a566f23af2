/-! Contracts: the model's sets (by program: wip/whole/c22.py) -/
def m_bank (n : Nat) (fa : Nat → Nat → Nat) (sh : Nat → Int32) (M : q_M) : Prop := M.1 34 0 = nI n ∧ ∀ q, q < n → M.1 35 q = nI (fa q 0) ∧ M.1 36 q = nI (fa q 1) ∧ M.1 37 q = nI (fa q 2) ∧ M.1 38 q = nI (fa q 3) ∧ M.1 39 q = sh q ∧ ∀ s, s < 6 → M.1 40 (6 * q + s) = nI (fa q (5 + s))
theorem m_bank.keep {n : Nat} {fa : Nat → Nat → Nat} {sh : Nat → Int32} {M M' : q_M} (h : m_bank n fa sh M) (h0 : M'.1 34 0 = M.1 34 0) (hf : ∀ r, 34 < r → r < 41 → M'.1 r = M.1 r) : m_bank n fa sh M' := by
  refine ⟨h0.trans h.1, fun q hq => ?_⟩
  rw [hf 35 (by decide) (by decide), hf 36 (by decide) (by decide), hf 37 (by decide) (by decide), hf 38 (by decide) (by decide), hf 39 (by decide) (by decide), hf 40 (by decide) (by decide)]
  exact h.2 q hq
theorem s_mhas {S q : Nat} (hS : S < 1024) (hq : q < 10) : (nI S >>> (nI q &&& 31)) &&& 1 = q_b (S.testBit q) := by
  have key : ∀ q, q < 10 → ∀ S, S < 1024 → (nI S >>> (nI q &&& 31)) &&& 1 = q_b (S.testBit q) := by decide +kernel
  exact key q hq S hS
def s_all : Nat → (Nat → Bool) → Bool
  | 0, _ => true
  | i + 1, p => s_all i p && p i
def p_f (fa : Nat → Nat → Nat) (S g q : Nat) : Bool := decide (fa q 1 = g) && (decide (fa q 0 = 2) && S.testBit q)
def p_t (fa : Nat → Nat → Nat) (S g q : Nat) : Bool := decide (fa q 1 = g) && (decide (fa q 0 = 1) && S.testBit q)
def p_a (fa : Nat → Nat → Nat) (g q : Nat) : Bool := decide (fa q 1 = g) && decide (fa q 0 = 1)
def s_gw (n : Nat) (fa : Nat → Nat → Nat) (S g : Nat) : Bool := decide (s_ct n (p_f fa S g) < 2) && (decide (s_ct n (p_t fa S g) = 0) || decide (s_ct n (p_t fa S g) = s_ct n (p_a fa g)))
def p_1 (fa : Nat → Nat → Nat) (sh : Nat → Int32) (S q : Nat) : Bool := if S.testBit q = true then !s_wn fa sh q else !decide (fa q 0 = 3)
def p_c (fa : Nat → Nat → Nat) (S c q : Nat) : Bool := S.testBit q && decide (fa q 2 = c)
def p_2 (n : Nat) (fa : Nat → Nat → Nat) (lo hi : Nat → Int32) (S c : Nat) : Bool := s_in (nI (s_ct n (p_c fa S c))) (lo c) (hi c) && s_gw n fa S c
/-- is a set fit, as the model counts -/
def s_mf (n : Nat) (fa : Nat → Nat → Nat) (sh : Nat → Int32) (lo hi : Nat → Int32) (mo : Int32) (S : Nat) : Bool := (s_all n (p_1 fa sh S) && s_all 3 (p_2 n fa lo hi S)) && decide (nI (s_ct n (fun q => S.testBit q)) ≤ mo)
set_option maxRecDepth 10000 in
theorem c_mhas (X : q_X) (d : Nat) {S q : Nat} (hS : S < 1024) (hq : q < 10) (M : q_M) : q_Ev X (d + 1) 77 [.int (nI S), .int (nI q)] M (some (.int (q_b (S.testBit q)))) (M) := by
  refine q_Ev.ofW rfl ?_
  show q_Wp X _ 77 (0, [some (.int (nI S)), some (.int (nI q))], [], M) _
  refine q_Wp.gn 4 (c' := (5, [some (.int (nI S)), some (.int (nI q))], [.int (((nI S) >>> ((nI q) &&& 31)) &&& 1)], M)) rfl ?_
  refine q_Wp.cv (c' := (5, [some (.int (nI S)), some (.int (nI q))], [.int (q_b (S.testBit q))], M)) (by first | rw [s_mhas hS hq] | simp only [s_mhas hS hq]) ?_
  refine q_Wp.gd 1 (¬ (q_b (S.testBit q)) = 1) (c1 := (13, [some (.int (nI S)), some (.int (nI q))], [], M)) (c2 := (9, [some (.int (nI S)), some (.int (nI q))], [], M)) rfl (fun h1 => ?_) (fun h1 => ?_)
  · -- t
    skip
    refine q_Wp.gn 0 (c' := (14, [some (.int (nI S)), some (.int (nI q))], [.int 0], M)) rfl ?_
    exact q_Wp.rt rfl rfl ⟨by cases hz : S.testBit q <;> simp_all [q_b], by rfl⟩
  · -- f
    have h1 : (q_b (S.testBit q)) = 1 := Classical.byContradiction h1
    refine q_Wp.gn 1 (c' := (14, [some (.int (nI S)), some (.int (nI q))], [.int 1], M)) rfl ?_
    exact q_Wp.rt rfl rfl ⟨by cases hz : S.testBit q <;> simp_all [q_b], by rfl⟩

set_option maxRecDepth 10000 in
theorem c_isQuestion (X : q_X) (d : Nat) (q : Int32) (M : q_M) : q_Ev X (d + 2) 68 [.ref 34, .int q] M (some (.int (q_b (s_in q 0 ((M.1 34 0) - 1))))) (M) := by
  refine q_Ev.ofW rfl ?_
  show q_Wp X _ 68 (0, [some (.ref 34), some (.int q)], [], M) _
  refine q_Wp.gc 6 (mj := 67) (as := [.int q, .int 0, .int ((M.1 34 0) - 1)]) (pc := 11) (ls := [some (.ref 34), some (.int q)]) (st := []) (M := M) (r1 := some (.int (q_b (s_in q 0 ((M.1 34 0) - 1))))) (M1 := M) rfl (c_in X d q 0 ((M.1 34 0) - 1) M) ?_
  show q_Wp X _ 68 (11, [some (.ref 34), some (.int q)], [.int (q_b (s_in q 0 ((M.1 34 0) - 1)))], M) _
  exact q_Wp.zr rfl rfl (q_b01 _) ⟨by rfl, by rfl⟩

def s_fld (w x : Int32) : Bool := if w = 0 then s_in x 0 4 else if w = 3 then s_in x 1 99 else s_in w 1 2 && s_in x 0 2
set_option maxRecDepth 10000 in
theorem c_isField (X : q_X) (d : Nat) (w x : Int32) (M : q_M) : q_Ev X (d + 2) 69 [.int w, .int x] M (some (.int (q_b (s_fld w x)))) (M) := by
  refine q_Ev.ofW rfl ?_
  show q_Wp X _ 69 (0, [some (.int w), some (.int x)], [], M) _
  refine q_Wp.gd 1 (¬ w = 0) (c1 := (13, [some (.int w), some (.int x)], [], M)) (c2 := (4, [some (.int w), some (.int x)], [], M)) rfl (fun h1 => ?_) (fun h1 => ?_)
  · -- t
    skip
    refine q_Wp.gd 2 (¬ w = 3) (c1 := (28, [some (.int w), some (.int x)], [], M)) (c2 := (18, [some (.int w), some (.int x)], [], M)) rfl (fun h2 => ?_) (fun h2 => ?_)
    · -- tt
      skip
      refine q_Wp.gc 3 (mj := 67) (as := [.int w, .int 1, .int 2]) (pc := 34) (ls := [some (.int w), some (.int x)]) (st := []) (M := M) (r1 := some (.int (q_b (s_in w 1 2)))) (M1 := M) rfl (c_in X d w 1 2 M) ?_
      show q_Wp X _ 69 (34, [some (.int w), some (.int x)], [.int (q_b (s_in w 1 2))], M) _
      refine q_Wp.ge0 0 (b := (s_in w 1 2)) (c1 := (50, [some (.int w), some (.int x)], [], M)) (c2 := (37, [some (.int w), some (.int x)], [], M)) rfl (fun h3 => ?_) (fun h3 => ?_)
      · -- ttt
        refine q_Wp.gn 0 (c' := (51, [some (.int w), some (.int x)], [.int 0], M)) rfl ?_
        exact q_Wp.rt rfl rfl ⟨by simp [s_fld, q_b, *], by rfl⟩
      · -- ttf
        refine q_Wp.gc 3 (mj := 67) (as := [.int x, .int 0, .int 2]) (pc := 43) (ls := [some (.int w), some (.int x)]) (st := []) (M := M) (r1 := some (.int (q_b (s_in x 0 2)))) (M1 := M) rfl (c_in X d x 0 2 M) ?_
        show q_Wp X _ 69 (43, [some (.int w), some (.int x)], [.int (q_b (s_in x 0 2))], M) _
        refine q_Wp.ge0 0 (b := (s_in x 0 2)) (c1 := (50, [some (.int w), some (.int x)], [], M)) (c2 := (46, [some (.int w), some (.int x)], [], M)) rfl (fun h4 => ?_) (fun h4 => ?_)
        · -- ttft
          refine q_Wp.gn 0 (c' := (51, [some (.int w), some (.int x)], [.int 0], M)) rfl ?_
          exact q_Wp.rt rfl rfl ⟨by simp [s_fld, q_b, *], by rfl⟩
        · -- ttff
          refine q_Wp.gn 1 (c' := (51, [some (.int w), some (.int x)], [.int 1], M)) rfl ?_
          exact q_Wp.rt rfl rfl ⟨by simp [s_fld, q_b, *], by rfl⟩
    · -- tf
      have h2 : w = 3 := Classical.byContradiction h2
      refine q_Wp.gc 3 (mj := 67) (as := [.int x, .int 1, .int 99]) (pc := 25) (ls := [some (.int w), some (.int x)]) (st := []) (M := M) (r1 := some (.int (q_b (s_in x 1 99)))) (M1 := M) rfl (c_in X d x 1 99 M) ?_
      show q_Wp X _ 69 (25, [some (.int w), some (.int x)], [.int (q_b (s_in x 1 99))], M) _
      refine q_Wp.gn 0 (c' := (51, [some (.int w), some (.int x)], [.int (q_b (s_in x 1 99))], M)) rfl ?_
      exact q_Wp.zr rfl rfl (q_b01 _) ⟨by simp [s_fld, q_b, *], by rfl⟩
  · -- f
    have h1 : w = 0 := Classical.byContradiction h1
    refine q_Wp.gc 3 (mj := 67) (as := [.int x, .int 0, .int 4]) (pc := 10) (ls := [some (.int w), some (.int x)]) (st := []) (M := M) (r1 := some (.int (q_b (s_in x 0 4)))) (M1 := M) rfl (c_in X d x 0 4 M) ?_
    show q_Wp X _ 69 (10, [some (.int w), some (.int x)], [.int (q_b (s_in x 0 4))], M) _
    refine q_Wp.gn 0 (c' := (51, [some (.int w), some (.int x)], [.int (q_b (s_in x 0 4))], M)) rfl ?_
    exact q_Wp.zr rfl rfl (q_b01 _) ⟨by simp [s_fld, q_b, *], by rfl⟩

set_option maxRecDepth 10000 in
theorem c_isGroupWell (X : q_X) (d : Nat) {n S g : Nat} {fa : Nat → Nat → Nat} {sh : Nat → Int32} (hO : ok_bank n fa) (hS : S < 1024) (hg : g < 3) (M : q_M) (hB : m_bank n fa sh M) : q_Ev X (d + 2) 78 [.ref 34, .int (nI S), .int (nI g)] M (some (.int (q_b (s_gw n fa S g)))) (M) := by
  refine q_Ev.ofW rfl ?_
  show q_Wp X _ 78 (0, [some (.ref 34), some (.int (nI S)), some (.int (nI g)), none, none, none, none], [], M) _
  have hn := hO.1
  have key : ∀ (kz : Nat) (i f tx al : Nat), i ≤ n → f = s_ct i (p_f fa S g) → tx = s_ct i (p_t fa S g) → al = s_ct i (p_a fa g) → n - i < kz → q_Wp X (d + 1) 78 (11, [some (.ref 34), some (.int (nI S)), some (.int (nI g)), some (.int (nI f)), some (.int (nI tx)), some (.int (nI al)), some (.int (nI i))], [], M) (fun r M' => r = some (.int (q_b (s_gw n fa S g))) ∧ M' = M) := by
    intro kz
    induction kz with
    | zero => intro i f tx al hi hf ht ha hm; exact absurd hm (by omega)
    | succ kz ih =>
      intro i f tx al hi hf ht ha hm
      have hfl := s_ct_le (p_f fa S g) i
      have htl := s_ct_le (p_t fa S g) i
      have hal := s_ct_le (p_a fa g) i
      refine q_Wp.gn 2 (c' := (17, [some (.ref 34), some (.int (nI S)), some (.int (nI g)), some (.int (nI f)), some (.int (nI tx)), some (.int (nI al)), some (.int (nI i))], [.int (M.1 34 0), .int (nI i)], M)) rfl ?_
      refine q_Wp.cv (c' := (17, [some (.ref 34), some (.int (nI S)), some (.int (nI g)), some (.int (nI f)), some (.int (nI tx)), some (.int (nI al)), some (.int (nI i))], [.int (nI n), .int (nI i)], M)) (by first | rw [hB.1] | simp only [hB.1]) ?_
      refine q_Wp.gd 0 ((nI n) ≤ (nI i)) (c1 := (116, [some (.ref 34), some (.int (nI S)), some (.int (nI g)), some (.int (nI f)), some (.int (nI tx)), some (.int (nI al)), some (.int (nI i))], [], M)) (c2 := (20, [some (.ref 34), some (.int (nI S)), some (.int (nI g)), some (.int (nI f)), some (.int (nI tx)), some (.int (nI al)), some (.int (nI i))], [], M)) rfl (fun g1 => ?_) (fun g1 => ?_)
      · -- t
        have g1 : n ≤ i := (nI_leI (a := n) (b := i) (by omega) (by omega)).mp g1
        refine q_Wp.gd 2 (2 ≤ (nI f)) (c1 := (137, [some (.ref 34), some (.int (nI S)), some (.int (nI g)), some (.int (nI f)), some (.int (nI tx)), some (.int (nI al)), some (.int (nI i))], [], M)) (c2 := (121, [some (.ref 34), some (.int (nI S)), some (.int (nI g)), some (.int (nI f)), some (.int (nI tx)), some (.int (nI al)), some (.int (nI i))], [], M)) rfl (fun g2 => ?_) (fun g2 => ?_)
        · -- tt
          have g2 : 2 ≤ f := (nI_leI (a := 2) (b := f) (by omega) (by omega)).mp g2
          refine q_Wp.gn 0 (c' := (138, [some (.ref 34), some (.int (nI S)), some (.int (nI g)), some (.int (nI f)), some (.int (nI tx)), some (.int (nI al)), some (.int (nI i))], [.int 0], M)) rfl ?_
          refine q_Wp.rt rfl rfl ?_
          (have e : i = n := by omega)
          subst e
          subst hf
          subst ht
          subst ha
          have hh : s_gw i fa S g = false := by unfold s_gw; apply Bool.eq_false_iff.mpr; simp only [ne_eq, Bool.and_eq_true, Bool.or_eq_true, decide_eq_true_eq]; omega
          rw [hh]
          exact ⟨rfl, rfl⟩
        · -- tf
          have g2 : ¬ 2 ≤ f := fun z => g2 ((nI_leI (a := 2) (b := f) (by omega) (by omega)).mpr z)
          refine q_Wp.gd 1 ((nI tx) = 0) (c1 := (133, [some (.ref 34), some (.int (nI S)), some (.int (nI g)), some (.int (nI f)), some (.int (nI tx)), some (.int (nI al)), some (.int (nI i))], [], M)) (c2 := (126, [some (.ref 34), some (.int (nI S)), some (.int (nI g)), some (.int (nI f)), some (.int (nI tx)), some (.int (nI al)), some (.int (nI i))], [], M)) rfl (fun g3 => ?_) (fun g3 => ?_)
          · -- tft
            have g3 : tx = 0 := (nI_eq (a := tx) (b := 0) (by omega) (by omega)).mp g3
            refine q_Wp.gn 1 (c' := (138, [some (.ref 34), some (.int (nI S)), some (.int (nI g)), some (.int (nI f)), some (.int (nI tx)), some (.int (nI al)), some (.int (nI i))], [.int 1], M)) rfl ?_
            refine q_Wp.rt rfl rfl ?_
            (have e : i = n := by omega)
            subst e
            subst hf
            subst ht
            subst ha
            have hh : s_gw i fa S g = true := by unfold s_gw; simp only [Bool.and_eq_true, Bool.or_eq_true, decide_eq_true_eq]; omega
            rw [hh]
            exact ⟨rfl, rfl⟩
          · -- tff
            have g3 : ¬ tx = 0 := fun z => g3 ((nI_eq (a := tx) (b := 0) (by omega) (by omega)).mpr z)
            refine q_Wp.gd 2 (¬ (nI tx) = (nI al)) (c1 := (137, [some (.ref 34), some (.int (nI S)), some (.int (nI g)), some (.int (nI f)), some (.int (nI tx)), some (.int (nI al)), some (.int (nI i))], [], M)) (c2 := (133, [some (.ref 34), some (.int (nI S)), some (.int (nI g)), some (.int (nI f)), some (.int (nI tx)), some (.int (nI al)), some (.int (nI i))], [], M)) rfl (fun g4 => ?_) (fun g4 => ?_)
            · -- tfft
              have g4 : ¬ tx = al := fun z => g4 ((nI_eq (a := tx) (b := al) (by omega) (by omega)).mpr z)
              refine q_Wp.gn 0 (c' := (138, [some (.ref 34), some (.int (nI S)), some (.int (nI g)), some (.int (nI f)), some (.int (nI tx)), some (.int (nI al)), some (.int (nI i))], [.int 0], M)) rfl ?_
              refine q_Wp.rt rfl rfl ?_
              (have e : i = n := by omega)
              subst e
              subst hf
              subst ht
              subst ha
              have hh : s_gw i fa S g = false := by unfold s_gw; apply Bool.eq_false_iff.mpr; simp only [ne_eq, Bool.and_eq_true, Bool.or_eq_true, decide_eq_true_eq]; omega
              rw [hh]
              exact ⟨rfl, rfl⟩
            · -- tfff
              have g4 : tx = al := (nI_eq (a := tx) (b := al) (by omega) (by omega)).mp (Classical.byContradiction g4)
              refine q_Wp.gn 1 (c' := (138, [some (.ref 34), some (.int (nI S)), some (.int (nI g)), some (.int (nI f)), some (.int (nI tx)), some (.int (nI al)), some (.int (nI i))], [.int 1], M)) rfl ?_
              refine q_Wp.rt rfl rfl ?_
              (have e : i = n := by omega)
              subst e
              subst hf
              subst ht
              subst ha
              have hh : s_gw i fa S g = true := by unfold s_gw; simp only [Bool.and_eq_true, Bool.or_eq_true, decide_eq_true_eq]; omega
              rw [hh]
              exact ⟨rfl, rfl⟩
      · -- f
        have g1 : ¬ n ≤ i := fun z => g1 ((nI_leI (a := n) (b := i) (by omega) (by omega)).mpr z)
        obtain ⟨e0, e1, e2, e3, e4, -⟩ := hB.2 i (by omega)
        obtain ⟨o0, o1, o2, o3, o4, -⟩ := hO.2 i (by omega)
        refine q_Wp.gn 2 (c' := (26, [some (.ref 34), some (.int (nI S)), some (.int (nI g)), some (.int (nI f)), some (.int (nI tx)), some (.int (nI al)), some (.int (nI i))], [.int (nI i), .ref 36], M)) rfl ?_
        refine q_Wp.ild (i := i) rfl (rfl) rfl (by omega) (by decide) ?_
        show q_Wp X _ 78 (27, [some (.ref 34), some (.int (nI S)), some (.int (nI g)), some (.int (nI f)), some (.int (nI tx)), some (.int (nI al)), some (.int (nI i))], [.int (M.1 36 i)], M) _
        refine q_Wp.cv (c' := (27, [some (.ref 34), some (.int (nI S)), some (.int (nI g)), some (.int (nI f)), some (.int (nI tx)), some (.int (nI al)), some (.int (nI i))], [.int (nI (fa i 1))], M)) (by first | rw [e1] | simp only [e1]) ?_
        refine q_Wp.gd 1 (¬ (nI (fa i 1)) = (nI g)) (c1 := (110, [some (.ref 34), some (.int (nI S)), some (.int (nI g)), some (.int (nI f)), some (.int (nI tx)), some (.int (nI al)), some (.int (nI i))], [], M)) (c2 := (31, [some (.ref 34), some (.int (nI S)), some (.int (nI g)), some (.int (nI f)), some (.int (nI tx)), some (.int (nI al)), some (.int (nI i))], [], M)) rfl (fun g5 => ?_) (fun g5 => ?_)
        · -- ft
          have g5 : ¬ (fa i 1) = g := fun z => g5 ((nI_eq (a := (fa i 1)) (b := g) (by omega) (by omega)).mpr z)
          refine q_Wp.gn 0 (c' := (113, [some (.ref 34), some (.int (nI S)), some (.int (nI g)), some (.int (nI f)), some (.int (nI tx)), some (.int (nI al)), some (.int ((nI i) + 1))], [], M)) rfl ?_
          refine q_Wp.cv (c' := (113, [some (.ref 34), some (.int (nI S)), some (.int (nI g)), some (.int (nI f)), some (.int (nI tx)), some (.int (nI al)), some (.int (nI (i + 1)))], [], M)) (by first | rw [nI_1] | simp only [nI_1]) ?_
          refine q_Wp.gn 0 (c' := (11, [some (.ref 34), some (.int (nI S)), some (.int (nI g)), some (.int (nI f)), some (.int (nI tx)), some (.int (nI al)), some (.int (nI (i + 1)))], [], M)) rfl ?_
          exact ih (i + 1) (f) (tx) (al) (by omega) (by first | (rw [s_ct, ← hf]; simp [p_f, g5]; done) | (exfalso; omega)) (by first | (rw [s_ct, ← ht]; simp [p_t, g5]; done) | (exfalso; omega)) (by first | (rw [s_ct, ← ha]; simp [p_a, g5]; done) | (exfalso; omega)) (by omega)
        · -- ff
          have g5 : (fa i 1) = g := (nI_eq (a := (fa i 1)) (b := g) (by omega) (by omega)).mp (Classical.byContradiction g5)
          refine q_Wp.gn 3 (c' := (38, [some (.ref 34), some (.int (nI S)), some (.int (nI g)), some (.int (nI f)), some (.int (nI tx)), some (.int (nI al)), some (.int (nI i))], [.int (nI i), .ref 35, .int (nI f)], M)) rfl ?_
          refine q_Wp.ild (i := i) rfl (rfl) rfl (by omega) (by decide) ?_
          show q_Wp X _ 78 (39, [some (.ref 34), some (.int (nI S)), some (.int (nI g)), some (.int (nI f)), some (.int (nI tx)), some (.int (nI al)), some (.int (nI i))], [.int (M.1 35 i), .int (nI f)], M) _
          refine q_Wp.cv (c' := (39, [some (.ref 34), some (.int (nI S)), some (.int (nI g)), some (.int (nI f)), some (.int (nI tx)), some (.int (nI al)), some (.int (nI i))], [.int (nI (fa i 0)), .int (nI f)], M)) (by first | rw [e0] | simp only [e0]) ?_
          refine q_Wp.gd 1 (¬ (nI (fa i 0)) = 2) (c1 := (56, [some (.ref 34), some (.int (nI S)), some (.int (nI g)), some (.int (nI f)), some (.int (nI tx)), some (.int (nI al)), some (.int (nI i))], [.int (nI f)], M)) (c2 := (43, [some (.ref 34), some (.int (nI S)), some (.int (nI g)), some (.int (nI f)), some (.int (nI tx)), some (.int (nI al)), some (.int (nI i))], [.int (nI f)], M)) rfl (fun g6 => ?_) (fun g6 => ?_)
          · -- fft
            have g6 : ¬ (fa i 0) = 2 := fun z => g6 ((nI_eq (a := (fa i 0)) (b := 2) (by omega) (by omega)).mpr z)
            refine q_Wp.gn 1 (c' := (58, [some (.ref 34), some (.int (nI S)), some (.int (nI g)), some (.int (nI f)), some (.int (nI tx)), some (.int (nI al)), some (.int (nI i))], [.int ((nI f) + 0)], M)) rfl ?_
            refine q_Wp.cv (c' := (58, [some (.ref 34), some (.int (nI S)), some (.int (nI g)), some (.int (nI f)), some (.int (nI tx)), some (.int (nI al)), some (.int (nI i))], [.int (nI (f + 0))], M)) (by first | rw [nI_add0] | simp only [nI_add0]) ?_
            refine q_Wp.gn 4 (c' := (67, [some (.ref 34), some (.int (nI S)), some (.int (nI g)), some (.int (nI (f + 0))), some (.int (nI tx)), some (.int (nI al)), some (.int (nI i))], [.int (nI i), .ref 35, .int (nI al)], M)) rfl ?_
            refine q_Wp.ild (i := i) rfl (rfl) rfl (by omega) (by decide) ?_
            show q_Wp X _ 78 (68, [some (.ref 34), some (.int (nI S)), some (.int (nI g)), some (.int (nI (f + 0))), some (.int (nI tx)), some (.int (nI al)), some (.int (nI i))], [.int (M.1 35 i), .int (nI al)], M) _
            refine q_Wp.cv (c' := (68, [some (.ref 34), some (.int (nI S)), some (.int (nI g)), some (.int (nI (f + 0))), some (.int (nI tx)), some (.int (nI al)), some (.int (nI i))], [.int (nI (fa i 0)), .int (nI al)], M)) (by first | rw [e0] | simp only [e0]) ?_
            refine q_Wp.gd 1 (¬ (nI (fa i 0)) = 1) (c1 := (76, [some (.ref 34), some (.int (nI S)), some (.int (nI g)), some (.int (nI (f + 0))), some (.int (nI tx)), some (.int (nI al)), some (.int (nI i))], [.int (nI al)], M)) (c2 := (72, [some (.ref 34), some (.int (nI S)), some (.int (nI g)), some (.int (nI (f + 0))), some (.int (nI tx)), some (.int (nI al)), some (.int (nI i))], [.int (nI al)], M)) rfl (fun g7 => ?_) (fun g7 => ?_)
            · -- fftt
              have g7 : ¬ (fa i 0) = 1 := fun z => g7 ((nI_eq (a := (fa i 0)) (b := 1) (by omega) (by omega)).mpr z)
              refine q_Wp.gn 1 (c' := (78, [some (.ref 34), some (.int (nI S)), some (.int (nI g)), some (.int (nI (f + 0))), some (.int (nI tx)), some (.int (nI al)), some (.int (nI i))], [.int ((nI al) + 0)], M)) rfl ?_
              refine q_Wp.cv (c' := (78, [some (.ref 34), some (.int (nI S)), some (.int (nI g)), some (.int (nI (f + 0))), some (.int (nI tx)), some (.int (nI al)), some (.int (nI i))], [.int (nI (al + 0))], M)) (by first | rw [nI_add0] | simp only [nI_add0]) ?_
              refine q_Wp.gn 4 (c' := (88, [some (.ref 34), some (.int (nI S)), some (.int (nI g)), some (.int (nI (f + 0))), some (.int (nI tx)), some (.int (nI (al + 0))), some (.int (nI i))], [.int (nI i), .ref 35, .int (nI tx)], M)) rfl ?_
              refine q_Wp.ild (i := i) rfl (rfl) rfl (by omega) (by decide) ?_
              show q_Wp X _ 78 (89, [some (.ref 34), some (.int (nI S)), some (.int (nI g)), some (.int (nI (f + 0))), some (.int (nI tx)), some (.int (nI (al + 0))), some (.int (nI i))], [.int (M.1 35 i), .int (nI tx)], M) _
              refine q_Wp.cv (c' := (89, [some (.ref 34), some (.int (nI S)), some (.int (nI g)), some (.int (nI (f + 0))), some (.int (nI tx)), some (.int (nI (al + 0))), some (.int (nI i))], [.int (nI (fa i 0)), .int (nI tx)], M)) (by first | rw [e0] | simp only [e0]) ?_
              refine q_Wp.gd 1 (¬ (nI (fa i 0)) = 1) (c1 := (106, [some (.ref 34), some (.int (nI S)), some (.int (nI g)), some (.int (nI (f + 0))), some (.int (nI tx)), some (.int (nI (al + 0))), some (.int (nI i))], [.int (nI tx)], M)) (c2 := (93, [some (.ref 34), some (.int (nI S)), some (.int (nI g)), some (.int (nI (f + 0))), some (.int (nI tx)), some (.int (nI (al + 0))), some (.int (nI i))], [.int (nI tx)], M)) rfl (fun g8 => ?_) (fun g8 => ?_)
              · -- ffttt
                have g8 : ¬ (fa i 0) = 1 := fun z => g8 ((nI_eq (a := (fa i 0)) (b := 1) (by omega) (by omega)).mpr z)
                refine q_Wp.gn 1 (c' := (108, [some (.ref 34), some (.int (nI S)), some (.int (nI g)), some (.int (nI (f + 0))), some (.int (nI tx)), some (.int (nI (al + 0))), some (.int (nI i))], [.int ((nI tx) + 0)], M)) rfl ?_
                refine q_Wp.cv (c' := (108, [some (.ref 34), some (.int (nI S)), some (.int (nI g)), some (.int (nI (f + 0))), some (.int (nI tx)), some (.int (nI (al + 0))), some (.int (nI i))], [.int (nI (tx + 0))], M)) (by first | rw [nI_add0] | simp only [nI_add0]) ?_
                refine q_Wp.gn 1 (c' := (113, [some (.ref 34), some (.int (nI S)), some (.int (nI g)), some (.int (nI (f + 0))), some (.int (nI (tx + 0))), some (.int (nI (al + 0))), some (.int ((nI i) + 1))], [], M)) rfl ?_
                refine q_Wp.cv (c' := (113, [some (.ref 34), some (.int (nI S)), some (.int (nI g)), some (.int (nI (f + 0))), some (.int (nI (tx + 0))), some (.int (nI (al + 0))), some (.int (nI (i + 1)))], [], M)) (by first | rw [nI_1] | simp only [nI_1]) ?_
                refine q_Wp.gn 0 (c' := (11, [some (.ref 34), some (.int (nI S)), some (.int (nI g)), some (.int (nI (f + 0))), some (.int (nI (tx + 0))), some (.int (nI (al + 0))), some (.int (nI (i + 1)))], [], M)) rfl ?_
                exact ih (i + 1) ((f + 0)) ((tx + 0)) ((al + 0)) (by omega) (by first | (rw [s_ct, ← hf]; simp [p_f, g5, g6, g7, g8]; done) | (exfalso; omega)) (by first | (rw [s_ct, ← ht]; simp [p_t, g5, g6, g7, g8]; done) | (exfalso; omega)) (by first | (rw [s_ct, ← ha]; simp [p_a, g5, g6, g7, g8]; done) | (exfalso; omega)) (by omega)
              · -- ffttf
                have g8 : (fa i 0) = 1 := (nI_eq (a := (fa i 0)) (b := 1) (by omega) (by omega)).mp (Classical.byContradiction g8)
                refine q_Wp.gc 2 (mj := 77) (as := [.int (nI S), .int (nI i)]) (pc := 99) (ls := [some (.ref 34), some (.int (nI S)), some (.int (nI g)), some (.int (nI (f + 0))), some (.int (nI tx)), some (.int (nI (al + 0))), some (.int (nI i))]) (st := [.int (nI tx)]) (M := M) (r1 := some (.int (q_b (S.testBit i)))) (M1 := M) rfl (c_mhas X d (S := S) (q := i) hS (by omega) M) ?_
                show q_Wp X _ 78 (99, [some (.ref 34), some (.int (nI S)), some (.int (nI g)), some (.int (nI (f + 0))), some (.int (nI tx)), some (.int (nI (al + 0))), some (.int (nI i))], [.int (q_b (S.testBit i)), .int (nI tx)], M) _
                refine q_Wp.ge0 0 (b := (S.testBit i)) (c1 := (106, [some (.ref 34), some (.int (nI S)), some (.int (nI g)), some (.int (nI (f + 0))), some (.int (nI tx)), some (.int (nI (al + 0))), some (.int (nI i))], [.int (nI tx)], M)) (c2 := (102, [some (.ref 34), some (.int (nI S)), some (.int (nI g)), some (.int (nI (f + 0))), some (.int (nI tx)), some (.int (nI (al + 0))), some (.int (nI i))], [.int (nI tx)], M)) rfl (fun g9 => ?_) (fun g9 => ?_)
                · -- ffttft
                  refine q_Wp.gn 1 (c' := (108, [some (.ref 34), some (.int (nI S)), some (.int (nI g)), some (.int (nI (f + 0))), some (.int (nI tx)), some (.int (nI (al + 0))), some (.int (nI i))], [.int ((nI tx) + 0)], M)) rfl ?_
                  refine q_Wp.cv (c' := (108, [some (.ref 34), some (.int (nI S)), some (.int (nI g)), some (.int (nI (f + 0))), some (.int (nI tx)), some (.int (nI (al + 0))), some (.int (nI i))], [.int (nI (tx + 0))], M)) (by first | rw [nI_add0] | simp only [nI_add0]) ?_
                  refine q_Wp.gn 1 (c' := (113, [some (.ref 34), some (.int (nI S)), some (.int (nI g)), some (.int (nI (f + 0))), some (.int (nI (tx + 0))), some (.int (nI (al + 0))), some (.int ((nI i) + 1))], [], M)) rfl ?_
                  refine q_Wp.cv (c' := (113, [some (.ref 34), some (.int (nI S)), some (.int (nI g)), some (.int (nI (f + 0))), some (.int (nI (tx + 0))), some (.int (nI (al + 0))), some (.int (nI (i + 1)))], [], M)) (by first | rw [nI_1] | simp only [nI_1]) ?_
                  refine q_Wp.gn 0 (c' := (11, [some (.ref 34), some (.int (nI S)), some (.int (nI g)), some (.int (nI (f + 0))), some (.int (nI (tx + 0))), some (.int (nI (al + 0))), some (.int (nI (i + 1)))], [], M)) rfl ?_
                  exact ih (i + 1) ((f + 0)) ((tx + 0)) ((al + 0)) (by omega) (by first | (rw [s_ct, ← hf]; simp [p_f, g5, g6, g7, g8, g9]; done) | (exfalso; omega)) (by first | (rw [s_ct, ← ht]; simp [p_t, g5, g6, g7, g8, g9]; done) | (exfalso; omega)) (by first | (rw [s_ct, ← ha]; simp [p_a, g5, g6, g7, g8, g9]; done) | (exfalso; omega)) (by omega)
                · -- ffttff
                  refine q_Wp.gn 2 (c' := (108, [some (.ref 34), some (.int (nI S)), some (.int (nI g)), some (.int (nI (f + 0))), some (.int (nI tx)), some (.int (nI (al + 0))), some (.int (nI i))], [.int ((nI tx) + 1)], M)) rfl ?_
                  refine q_Wp.cv (c' := (108, [some (.ref 34), some (.int (nI S)), some (.int (nI g)), some (.int (nI (f + 0))), some (.int (nI tx)), some (.int (nI (al + 0))), some (.int (nI i))], [.int (nI (tx + 1))], M)) (by first | rw [nI_1] | simp only [nI_1]) ?_
                  refine q_Wp.gn 1 (c' := (113, [some (.ref 34), some (.int (nI S)), some (.int (nI g)), some (.int (nI (f + 0))), some (.int (nI (tx + 1))), some (.int (nI (al + 0))), some (.int ((nI i) + 1))], [], M)) rfl ?_
                  refine q_Wp.cv (c' := (113, [some (.ref 34), some (.int (nI S)), some (.int (nI g)), some (.int (nI (f + 0))), some (.int (nI (tx + 1))), some (.int (nI (al + 0))), some (.int (nI (i + 1)))], [], M)) (by first | rw [nI_1] | simp only [nI_1]) ?_
                  refine q_Wp.gn 0 (c' := (11, [some (.ref 34), some (.int (nI S)), some (.int (nI g)), some (.int (nI (f + 0))), some (.int (nI (tx + 1))), some (.int (nI (al + 0))), some (.int (nI (i + 1)))], [], M)) rfl ?_
                  exact ih (i + 1) ((f + 0)) ((tx + 1)) ((al + 0)) (by omega) (by first | (rw [s_ct, ← hf]; simp [p_f, g5, g6, g7, g8, g9]; done) | (exfalso; omega)) (by first | (rw [s_ct, ← ht]; simp [p_t, g5, g6, g7, g8, g9]; done) | (exfalso; omega)) (by first | (rw [s_ct, ← ha]; simp [p_a, g5, g6, g7, g8, g9]; done) | (exfalso; omega)) (by omega)
            · -- fftf
              have g7 : (fa i 0) = 1 := (nI_eq (a := (fa i 0)) (b := 1) (by omega) (by omega)).mp (Classical.byContradiction g7)
              refine q_Wp.gn 2 (c' := (78, [some (.ref 34), some (.int (nI S)), some (.int (nI g)), some (.int (nI (f + 0))), some (.int (nI tx)), some (.int (nI al)), some (.int (nI i))], [.int ((nI al) + 1)], M)) rfl ?_
              refine q_Wp.cv (c' := (78, [some (.ref 34), some (.int (nI S)), some (.int (nI g)), some (.int (nI (f + 0))), some (.int (nI tx)), some (.int (nI al)), some (.int (nI i))], [.int (nI (al + 1))], M)) (by first | rw [nI_1] | simp only [nI_1]) ?_
              refine q_Wp.gn 4 (c' := (88, [some (.ref 34), some (.int (nI S)), some (.int (nI g)), some (.int (nI (f + 0))), some (.int (nI tx)), some (.int (nI (al + 1))), some (.int (nI i))], [.int (nI i), .ref 35, .int (nI tx)], M)) rfl ?_
              refine q_Wp.ild (i := i) rfl (rfl) rfl (by omega) (by decide) ?_
              show q_Wp X _ 78 (89, [some (.ref 34), some (.int (nI S)), some (.int (nI g)), some (.int (nI (f + 0))), some (.int (nI tx)), some (.int (nI (al + 1))), some (.int (nI i))], [.int (M.1 35 i), .int (nI tx)], M) _
              refine q_Wp.cv (c' := (89, [some (.ref 34), some (.int (nI S)), some (.int (nI g)), some (.int (nI (f + 0))), some (.int (nI tx)), some (.int (nI (al + 1))), some (.int (nI i))], [.int (nI (fa i 0)), .int (nI tx)], M)) (by first | rw [e0] | simp only [e0]) ?_
              refine q_Wp.gd 1 (¬ (nI (fa i 0)) = 1) (c1 := (106, [some (.ref 34), some (.int (nI S)), some (.int (nI g)), some (.int (nI (f + 0))), some (.int (nI tx)), some (.int (nI (al + 1))), some (.int (nI i))], [.int (nI tx)], M)) (c2 := (93, [some (.ref 34), some (.int (nI S)), some (.int (nI g)), some (.int (nI (f + 0))), some (.int (nI tx)), some (.int (nI (al + 1))), some (.int (nI i))], [.int (nI tx)], M)) rfl (fun g10 => ?_) (fun g10 => ?_)
              · -- fftft
                have g10 : ¬ (fa i 0) = 1 := fun z => g10 ((nI_eq (a := (fa i 0)) (b := 1) (by omega) (by omega)).mpr z)
                refine q_Wp.gn 1 (c' := (108, [some (.ref 34), some (.int (nI S)), some (.int (nI g)), some (.int (nI (f + 0))), some (.int (nI tx)), some (.int (nI (al + 1))), some (.int (nI i))], [.int ((nI tx) + 0)], M)) rfl ?_
                refine q_Wp.cv (c' := (108, [some (.ref 34), some (.int (nI S)), some (.int (nI g)), some (.int (nI (f + 0))), some (.int (nI tx)), some (.int (nI (al + 1))), some (.int (nI i))], [.int (nI (tx + 0))], M)) (by first | rw [nI_add0] | simp only [nI_add0]) ?_
                refine q_Wp.gn 1 (c' := (113, [some (.ref 34), some (.int (nI S)), some (.int (nI g)), some (.int (nI (f + 0))), some (.int (nI (tx + 0))), some (.int (nI (al + 1))), some (.int ((nI i) + 1))], [], M)) rfl ?_
                refine q_Wp.cv (c' := (113, [some (.ref 34), some (.int (nI S)), some (.int (nI g)), some (.int (nI (f + 0))), some (.int (nI (tx + 0))), some (.int (nI (al + 1))), some (.int (nI (i + 1)))], [], M)) (by first | rw [nI_1] | simp only [nI_1]) ?_
                refine q_Wp.gn 0 (c' := (11, [some (.ref 34), some (.int (nI S)), some (.int (nI g)), some (.int (nI (f + 0))), some (.int (nI (tx + 0))), some (.int (nI (al + 1))), some (.int (nI (i + 1)))], [], M)) rfl ?_
                exact ih (i + 1) ((f + 0)) ((tx + 0)) ((al + 1)) (by omega) (by first | (rw [s_ct, ← hf]; simp [p_f, g5, g6, g7, g10]; done) | (exfalso; omega)) (by first | (rw [s_ct, ← ht]; simp [p_t, g5, g6, g7, g10]; done) | (exfalso; omega)) (by first | (rw [s_ct, ← ha]; simp [p_a, g5, g6, g7, g10]; done) | (exfalso; omega)) (by omega)
              · -- fftff
                have g10 : (fa i 0) = 1 := (nI_eq (a := (fa i 0)) (b := 1) (by omega) (by omega)).mp (Classical.byContradiction g10)
                refine q_Wp.gc 2 (mj := 77) (as := [.int (nI S), .int (nI i)]) (pc := 99) (ls := [some (.ref 34), some (.int (nI S)), some (.int (nI g)), some (.int (nI (f + 0))), some (.int (nI tx)), some (.int (nI (al + 1))), some (.int (nI i))]) (st := [.int (nI tx)]) (M := M) (r1 := some (.int (q_b (S.testBit i)))) (M1 := M) rfl (c_mhas X d (S := S) (q := i) hS (by omega) M) ?_
                show q_Wp X _ 78 (99, [some (.ref 34), some (.int (nI S)), some (.int (nI g)), some (.int (nI (f + 0))), some (.int (nI tx)), some (.int (nI (al + 1))), some (.int (nI i))], [.int (q_b (S.testBit i)), .int (nI tx)], M) _
                refine q_Wp.ge0 0 (b := (S.testBit i)) (c1 := (106, [some (.ref 34), some (.int (nI S)), some (.int (nI g)), some (.int (nI (f + 0))), some (.int (nI tx)), some (.int (nI (al + 1))), some (.int (nI i))], [.int (nI tx)], M)) (c2 := (102, [some (.ref 34), some (.int (nI S)), some (.int (nI g)), some (.int (nI (f + 0))), some (.int (nI tx)), some (.int (nI (al + 1))), some (.int (nI i))], [.int (nI tx)], M)) rfl (fun g11 => ?_) (fun g11 => ?_)
                · -- fftfft
                  refine q_Wp.gn 1 (c' := (108, [some (.ref 34), some (.int (nI S)), some (.int (nI g)), some (.int (nI (f + 0))), some (.int (nI tx)), some (.int (nI (al + 1))), some (.int (nI i))], [.int ((nI tx) + 0)], M)) rfl ?_
                  refine q_Wp.cv (c' := (108, [some (.ref 34), some (.int (nI S)), some (.int (nI g)), some (.int (nI (f + 0))), some (.int (nI tx)), some (.int (nI (al + 1))), some (.int (nI i))], [.int (nI (tx + 0))], M)) (by first | rw [nI_add0] | simp only [nI_add0]) ?_
                  refine q_Wp.gn 1 (c' := (113, [some (.ref 34), some (.int (nI S)), some (.int (nI g)), some (.int (nI (f + 0))), some (.int (nI (tx + 0))), some (.int (nI (al + 1))), some (.int ((nI i) + 1))], [], M)) rfl ?_
                  refine q_Wp.cv (c' := (113, [some (.ref 34), some (.int (nI S)), some (.int (nI g)), some (.int (nI (f + 0))), some (.int (nI (tx + 0))), some (.int (nI (al + 1))), some (.int (nI (i + 1)))], [], M)) (by first | rw [nI_1] | simp only [nI_1]) ?_
                  refine q_Wp.gn 0 (c' := (11, [some (.ref 34), some (.int (nI S)), some (.int (nI g)), some (.int (nI (f + 0))), some (.int (nI (tx + 0))), some (.int (nI (al + 1))), some (.int (nI (i + 1)))], [], M)) rfl ?_
                  exact ih (i + 1) ((f + 0)) ((tx + 0)) ((al + 1)) (by omega) (by first | (rw [s_ct, ← hf]; simp [p_f, g5, g6, g7, g10, g11]; done) | (exfalso; omega)) (by first | (rw [s_ct, ← ht]; simp [p_t, g5, g6, g7, g10, g11]; done) | (exfalso; omega)) (by first | (rw [s_ct, ← ha]; simp [p_a, g5, g6, g7, g10, g11]; done) | (exfalso; omega)) (by omega)
                · -- fftfff
                  refine q_Wp.gn 2 (c' := (108, [some (.ref 34), some (.int (nI S)), some (.int (nI g)), some (.int (nI (f + 0))), some (.int (nI tx)), some (.int (nI (al + 1))), some (.int (nI i))], [.int ((nI tx) + 1)], M)) rfl ?_
                  refine q_Wp.cv (c' := (108, [some (.ref 34), some (.int (nI S)), some (.int (nI g)), some (.int (nI (f + 0))), some (.int (nI tx)), some (.int (nI (al + 1))), some (.int (nI i))], [.int (nI (tx + 1))], M)) (by first | rw [nI_1] | simp only [nI_1]) ?_
                  refine q_Wp.gn 1 (c' := (113, [some (.ref 34), some (.int (nI S)), some (.int (nI g)), some (.int (nI (f + 0))), some (.int (nI (tx + 1))), some (.int (nI (al + 1))), some (.int ((nI i) + 1))], [], M)) rfl ?_
                  refine q_Wp.cv (c' := (113, [some (.ref 34), some (.int (nI S)), some (.int (nI g)), some (.int (nI (f + 0))), some (.int (nI (tx + 1))), some (.int (nI (al + 1))), some (.int (nI (i + 1)))], [], M)) (by first | rw [nI_1] | simp only [nI_1]) ?_
                  refine q_Wp.gn 0 (c' := (11, [some (.ref 34), some (.int (nI S)), some (.int (nI g)), some (.int (nI (f + 0))), some (.int (nI (tx + 1))), some (.int (nI (al + 1))), some (.int (nI (i + 1)))], [], M)) rfl ?_
                  exact ih (i + 1) ((f + 0)) ((tx + 1)) ((al + 1)) (by omega) (by first | (rw [s_ct, ← hf]; simp [p_f, g5, g6, g7, g10, g11]; done) | (exfalso; omega)) (by first | (rw [s_ct, ← ht]; simp [p_t, g5, g6, g7, g10, g11]; done) | (exfalso; omega)) (by first | (rw [s_ct, ← ha]; simp [p_a, g5, g6, g7, g10, g11]; done) | (exfalso; omega)) (by omega)
          · -- fff
            have g6 : (fa i 0) = 2 := (nI_eq (a := (fa i 0)) (b := 2) (by omega) (by omega)).mp (Classical.byContradiction g6)
            refine q_Wp.gc 2 (mj := 77) (as := [.int (nI S), .int (nI i)]) (pc := 49) (ls := [some (.ref 34), some (.int (nI S)), some (.int (nI g)), some (.int (nI f)), some (.int (nI tx)), some (.int (nI al)), some (.int (nI i))]) (st := [.int (nI f)]) (M := M) (r1 := some (.int (q_b (S.testBit i)))) (M1 := M) rfl (c_mhas X d (S := S) (q := i) hS (by omega) M) ?_
            show q_Wp X _ 78 (49, [some (.ref 34), some (.int (nI S)), some (.int (nI g)), some (.int (nI f)), some (.int (nI tx)), some (.int (nI al)), some (.int (nI i))], [.int (q_b (S.testBit i)), .int (nI f)], M) _
            refine q_Wp.ge0 0 (b := (S.testBit i)) (c1 := (56, [some (.ref 34), some (.int (nI S)), some (.int (nI g)), some (.int (nI f)), some (.int (nI tx)), some (.int (nI al)), some (.int (nI i))], [.int (nI f)], M)) (c2 := (52, [some (.ref 34), some (.int (nI S)), some (.int (nI g)), some (.int (nI f)), some (.int (nI tx)), some (.int (nI al)), some (.int (nI i))], [.int (nI f)], M)) rfl (fun g12 => ?_) (fun g12 => ?_)
            · -- ffft
              refine q_Wp.gn 1 (c' := (58, [some (.ref 34), some (.int (nI S)), some (.int (nI g)), some (.int (nI f)), some (.int (nI tx)), some (.int (nI al)), some (.int (nI i))], [.int ((nI f) + 0)], M)) rfl ?_
              refine q_Wp.cv (c' := (58, [some (.ref 34), some (.int (nI S)), some (.int (nI g)), some (.int (nI f)), some (.int (nI tx)), some (.int (nI al)), some (.int (nI i))], [.int (nI (f + 0))], M)) (by first | rw [nI_add0] | simp only [nI_add0]) ?_
              refine q_Wp.gn 4 (c' := (67, [some (.ref 34), some (.int (nI S)), some (.int (nI g)), some (.int (nI (f + 0))), some (.int (nI tx)), some (.int (nI al)), some (.int (nI i))], [.int (nI i), .ref 35, .int (nI al)], M)) rfl ?_
              refine q_Wp.ild (i := i) rfl (rfl) rfl (by omega) (by decide) ?_
              show q_Wp X _ 78 (68, [some (.ref 34), some (.int (nI S)), some (.int (nI g)), some (.int (nI (f + 0))), some (.int (nI tx)), some (.int (nI al)), some (.int (nI i))], [.int (M.1 35 i), .int (nI al)], M) _
              refine q_Wp.cv (c' := (68, [some (.ref 34), some (.int (nI S)), some (.int (nI g)), some (.int (nI (f + 0))), some (.int (nI tx)), some (.int (nI al)), some (.int (nI i))], [.int (nI (fa i 0)), .int (nI al)], M)) (by first | rw [e0] | simp only [e0]) ?_
              refine q_Wp.gd 1 (¬ (nI (fa i 0)) = 1) (c1 := (76, [some (.ref 34), some (.int (nI S)), some (.int (nI g)), some (.int (nI (f + 0))), some (.int (nI tx)), some (.int (nI al)), some (.int (nI i))], [.int (nI al)], M)) (c2 := (72, [some (.ref 34), some (.int (nI S)), some (.int (nI g)), some (.int (nI (f + 0))), some (.int (nI tx)), some (.int (nI al)), some (.int (nI i))], [.int (nI al)], M)) rfl (fun g13 => ?_) (fun g13 => ?_)
              · -- ffftt
                have g13 : ¬ (fa i 0) = 1 := fun z => g13 ((nI_eq (a := (fa i 0)) (b := 1) (by omega) (by omega)).mpr z)
                refine q_Wp.gn 1 (c' := (78, [some (.ref 34), some (.int (nI S)), some (.int (nI g)), some (.int (nI (f + 0))), some (.int (nI tx)), some (.int (nI al)), some (.int (nI i))], [.int ((nI al) + 0)], M)) rfl ?_
                refine q_Wp.cv (c' := (78, [some (.ref 34), some (.int (nI S)), some (.int (nI g)), some (.int (nI (f + 0))), some (.int (nI tx)), some (.int (nI al)), some (.int (nI i))], [.int (nI (al + 0))], M)) (by first | rw [nI_add0] | simp only [nI_add0]) ?_
                refine q_Wp.gn 4 (c' := (88, [some (.ref 34), some (.int (nI S)), some (.int (nI g)), some (.int (nI (f + 0))), some (.int (nI tx)), some (.int (nI (al + 0))), some (.int (nI i))], [.int (nI i), .ref 35, .int (nI tx)], M)) rfl ?_
                refine q_Wp.ild (i := i) rfl (rfl) rfl (by omega) (by decide) ?_
                show q_Wp X _ 78 (89, [some (.ref 34), some (.int (nI S)), some (.int (nI g)), some (.int (nI (f + 0))), some (.int (nI tx)), some (.int (nI (al + 0))), some (.int (nI i))], [.int (M.1 35 i), .int (nI tx)], M) _
                refine q_Wp.cv (c' := (89, [some (.ref 34), some (.int (nI S)), some (.int (nI g)), some (.int (nI (f + 0))), some (.int (nI tx)), some (.int (nI (al + 0))), some (.int (nI i))], [.int (nI (fa i 0)), .int (nI tx)], M)) (by first | rw [e0] | simp only [e0]) ?_
                refine q_Wp.gd 1 (¬ (nI (fa i 0)) = 1) (c1 := (106, [some (.ref 34), some (.int (nI S)), some (.int (nI g)), some (.int (nI (f + 0))), some (.int (nI tx)), some (.int (nI (al + 0))), some (.int (nI i))], [.int (nI tx)], M)) (c2 := (93, [some (.ref 34), some (.int (nI S)), some (.int (nI g)), some (.int (nI (f + 0))), some (.int (nI tx)), some (.int (nI (al + 0))), some (.int (nI i))], [.int (nI tx)], M)) rfl (fun g14 => ?_) (fun g14 => ?_)
                · -- fffttt
                  have g14 : ¬ (fa i 0) = 1 := fun z => g14 ((nI_eq (a := (fa i 0)) (b := 1) (by omega) (by omega)).mpr z)
                  refine q_Wp.gn 1 (c' := (108, [some (.ref 34), some (.int (nI S)), some (.int (nI g)), some (.int (nI (f + 0))), some (.int (nI tx)), some (.int (nI (al + 0))), some (.int (nI i))], [.int ((nI tx) + 0)], M)) rfl ?_
                  refine q_Wp.cv (c' := (108, [some (.ref 34), some (.int (nI S)), some (.int (nI g)), some (.int (nI (f + 0))), some (.int (nI tx)), some (.int (nI (al + 0))), some (.int (nI i))], [.int (nI (tx + 0))], M)) (by first | rw [nI_add0] | simp only [nI_add0]) ?_
                  refine q_Wp.gn 1 (c' := (113, [some (.ref 34), some (.int (nI S)), some (.int (nI g)), some (.int (nI (f + 0))), some (.int (nI (tx + 0))), some (.int (nI (al + 0))), some (.int ((nI i) + 1))], [], M)) rfl ?_
                  refine q_Wp.cv (c' := (113, [some (.ref 34), some (.int (nI S)), some (.int (nI g)), some (.int (nI (f + 0))), some (.int (nI (tx + 0))), some (.int (nI (al + 0))), some (.int (nI (i + 1)))], [], M)) (by first | rw [nI_1] | simp only [nI_1]) ?_
                  refine q_Wp.gn 0 (c' := (11, [some (.ref 34), some (.int (nI S)), some (.int (nI g)), some (.int (nI (f + 0))), some (.int (nI (tx + 0))), some (.int (nI (al + 0))), some (.int (nI (i + 1)))], [], M)) rfl ?_
                  exact ih (i + 1) ((f + 0)) ((tx + 0)) ((al + 0)) (by omega) (by first | (rw [s_ct, ← hf]; simp [p_f, g5, g6, g12, g13, g14]; done) | (exfalso; omega)) (by first | (rw [s_ct, ← ht]; simp [p_t, g5, g6, g12, g13, g14]; done) | (exfalso; omega)) (by first | (rw [s_ct, ← ha]; simp [p_a, g5, g6, g12, g13, g14]; done) | (exfalso; omega)) (by omega)
                · -- fffttf
                  have g14 : (fa i 0) = 1 := (nI_eq (a := (fa i 0)) (b := 1) (by omega) (by omega)).mp (Classical.byContradiction g14)
                  refine q_Wp.gc 2 (mj := 77) (as := [.int (nI S), .int (nI i)]) (pc := 99) (ls := [some (.ref 34), some (.int (nI S)), some (.int (nI g)), some (.int (nI (f + 0))), some (.int (nI tx)), some (.int (nI (al + 0))), some (.int (nI i))]) (st := [.int (nI tx)]) (M := M) (r1 := some (.int (q_b (S.testBit i)))) (M1 := M) rfl (c_mhas X d (S := S) (q := i) hS (by omega) M) ?_
                  show q_Wp X _ 78 (99, [some (.ref 34), some (.int (nI S)), some (.int (nI g)), some (.int (nI (f + 0))), some (.int (nI tx)), some (.int (nI (al + 0))), some (.int (nI i))], [.int (q_b (S.testBit i)), .int (nI tx)], M) _
                  refine q_Wp.ge0 0 (b := (S.testBit i)) (c1 := (106, [some (.ref 34), some (.int (nI S)), some (.int (nI g)), some (.int (nI (f + 0))), some (.int (nI tx)), some (.int (nI (al + 0))), some (.int (nI i))], [.int (nI tx)], M)) (c2 := (102, [some (.ref 34), some (.int (nI S)), some (.int (nI g)), some (.int (nI (f + 0))), some (.int (nI tx)), some (.int (nI (al + 0))), some (.int (nI i))], [.int (nI tx)], M)) rfl (fun _ => ?_) (fun z => absurd (g12.symm.trans z) (by decide))
                  refine q_Wp.gn 1 (c' := (108, [some (.ref 34), some (.int (nI S)), some (.int (nI g)), some (.int (nI (f + 0))), some (.int (nI tx)), some (.int (nI (al + 0))), some (.int (nI i))], [.int ((nI tx) + 0)], M)) rfl ?_
                  refine q_Wp.cv (c' := (108, [some (.ref 34), some (.int (nI S)), some (.int (nI g)), some (.int (nI (f + 0))), some (.int (nI tx)), some (.int (nI (al + 0))), some (.int (nI i))], [.int (nI (tx + 0))], M)) (by first | rw [nI_add0] | simp only [nI_add0]) ?_
                  refine q_Wp.gn 1 (c' := (113, [some (.ref 34), some (.int (nI S)), some (.int (nI g)), some (.int (nI (f + 0))), some (.int (nI (tx + 0))), some (.int (nI (al + 0))), some (.int ((nI i) + 1))], [], M)) rfl ?_
                  refine q_Wp.cv (c' := (113, [some (.ref 34), some (.int (nI S)), some (.int (nI g)), some (.int (nI (f + 0))), some (.int (nI (tx + 0))), some (.int (nI (al + 0))), some (.int (nI (i + 1)))], [], M)) (by first | rw [nI_1] | simp only [nI_1]) ?_
                  refine q_Wp.gn 0 (c' := (11, [some (.ref 34), some (.int (nI S)), some (.int (nI g)), some (.int (nI (f + 0))), some (.int (nI (tx + 0))), some (.int (nI (al + 0))), some (.int (nI (i + 1)))], [], M)) rfl ?_
                  exact ih (i + 1) ((f + 0)) ((tx + 0)) ((al + 0)) (by omega) (by first | (rw [s_ct, ← hf]; simp [p_f, g5, g6, g12, g13, g14]; done) | (exfalso; omega)) (by first | (rw [s_ct, ← ht]; simp [p_t, g5, g6, g12, g13, g14]; done) | (exfalso; omega)) (by first | (rw [s_ct, ← ha]; simp [p_a, g5, g6, g12, g13, g14]; done) | (exfalso; omega)) (by omega)
              · -- ffftf
                have g13 : (fa i 0) = 1 := (nI_eq (a := (fa i 0)) (b := 1) (by omega) (by omega)).mp (Classical.byContradiction g13)
                refine q_Wp.gn 2 (c' := (78, [some (.ref 34), some (.int (nI S)), some (.int (nI g)), some (.int (nI (f + 0))), some (.int (nI tx)), some (.int (nI al)), some (.int (nI i))], [.int ((nI al) + 1)], M)) rfl ?_
                refine q_Wp.cv (c' := (78, [some (.ref 34), some (.int (nI S)), some (.int (nI g)), some (.int (nI (f + 0))), some (.int (nI tx)), some (.int (nI al)), some (.int (nI i))], [.int (nI (al + 1))], M)) (by first | rw [nI_1] | simp only [nI_1]) ?_
                refine q_Wp.gn 4 (c' := (88, [some (.ref 34), some (.int (nI S)), some (.int (nI g)), some (.int (nI (f + 0))), some (.int (nI tx)), some (.int (nI (al + 1))), some (.int (nI i))], [.int (nI i), .ref 35, .int (nI tx)], M)) rfl ?_
                refine q_Wp.ild (i := i) rfl (rfl) rfl (by omega) (by decide) ?_
                show q_Wp X _ 78 (89, [some (.ref 34), some (.int (nI S)), some (.int (nI g)), some (.int (nI (f + 0))), some (.int (nI tx)), some (.int (nI (al + 1))), some (.int (nI i))], [.int (M.1 35 i), .int (nI tx)], M) _
                refine q_Wp.cv (c' := (89, [some (.ref 34), some (.int (nI S)), some (.int (nI g)), some (.int (nI (f + 0))), some (.int (nI tx)), some (.int (nI (al + 1))), some (.int (nI i))], [.int (nI (fa i 0)), .int (nI tx)], M)) (by first | rw [e0] | simp only [e0]) ?_
                refine q_Wp.gd 1 (¬ (nI (fa i 0)) = 1) (c1 := (106, [some (.ref 34), some (.int (nI S)), some (.int (nI g)), some (.int (nI (f + 0))), some (.int (nI tx)), some (.int (nI (al + 1))), some (.int (nI i))], [.int (nI tx)], M)) (c2 := (93, [some (.ref 34), some (.int (nI S)), some (.int (nI g)), some (.int (nI (f + 0))), some (.int (nI tx)), some (.int (nI (al + 1))), some (.int (nI i))], [.int (nI tx)], M)) rfl (fun g15 => ?_) (fun g15 => ?_)
                · -- ffftft
                  have g15 : ¬ (fa i 0) = 1 := fun z => g15 ((nI_eq (a := (fa i 0)) (b := 1) (by omega) (by omega)).mpr z)
                  refine q_Wp.gn 1 (c' := (108, [some (.ref 34), some (.int (nI S)), some (.int (nI g)), some (.int (nI (f + 0))), some (.int (nI tx)), some (.int (nI (al + 1))), some (.int (nI i))], [.int ((nI tx) + 0)], M)) rfl ?_
                  refine q_Wp.cv (c' := (108, [some (.ref 34), some (.int (nI S)), some (.int (nI g)), some (.int (nI (f + 0))), some (.int (nI tx)), some (.int (nI (al + 1))), some (.int (nI i))], [.int (nI (tx + 0))], M)) (by first | rw [nI_add0] | simp only [nI_add0]) ?_
                  refine q_Wp.gn 1 (c' := (113, [some (.ref 34), some (.int (nI S)), some (.int (nI g)), some (.int (nI (f + 0))), some (.int (nI (tx + 0))), some (.int (nI (al + 1))), some (.int ((nI i) + 1))], [], M)) rfl ?_
                  refine q_Wp.cv (c' := (113, [some (.ref 34), some (.int (nI S)), some (.int (nI g)), some (.int (nI (f + 0))), some (.int (nI (tx + 0))), some (.int (nI (al + 1))), some (.int (nI (i + 1)))], [], M)) (by first | rw [nI_1] | simp only [nI_1]) ?_
                  refine q_Wp.gn 0 (c' := (11, [some (.ref 34), some (.int (nI S)), some (.int (nI g)), some (.int (nI (f + 0))), some (.int (nI (tx + 0))), some (.int (nI (al + 1))), some (.int (nI (i + 1)))], [], M)) rfl ?_
                  exact ih (i + 1) ((f + 0)) ((tx + 0)) ((al + 1)) (by omega) (by first | (rw [s_ct, ← hf]; simp [p_f, g5, g6, g12, g13, g15]; done) | (exfalso; omega)) (by first | (rw [s_ct, ← ht]; simp [p_t, g5, g6, g12, g13, g15]; done) | (exfalso; omega)) (by first | (rw [s_ct, ← ha]; simp [p_a, g5, g6, g12, g13, g15]; done) | (exfalso; omega)) (by omega)
                · -- ffftff
                  have g15 : (fa i 0) = 1 := (nI_eq (a := (fa i 0)) (b := 1) (by omega) (by omega)).mp (Classical.byContradiction g15)
                  refine q_Wp.gc 2 (mj := 77) (as := [.int (nI S), .int (nI i)]) (pc := 99) (ls := [some (.ref 34), some (.int (nI S)), some (.int (nI g)), some (.int (nI (f + 0))), some (.int (nI tx)), some (.int (nI (al + 1))), some (.int (nI i))]) (st := [.int (nI tx)]) (M := M) (r1 := some (.int (q_b (S.testBit i)))) (M1 := M) rfl (c_mhas X d (S := S) (q := i) hS (by omega) M) ?_
                  show q_Wp X _ 78 (99, [some (.ref 34), some (.int (nI S)), some (.int (nI g)), some (.int (nI (f + 0))), some (.int (nI tx)), some (.int (nI (al + 1))), some (.int (nI i))], [.int (q_b (S.testBit i)), .int (nI tx)], M) _
                  refine q_Wp.ge0 0 (b := (S.testBit i)) (c1 := (106, [some (.ref 34), some (.int (nI S)), some (.int (nI g)), some (.int (nI (f + 0))), some (.int (nI tx)), some (.int (nI (al + 1))), some (.int (nI i))], [.int (nI tx)], M)) (c2 := (102, [some (.ref 34), some (.int (nI S)), some (.int (nI g)), some (.int (nI (f + 0))), some (.int (nI tx)), some (.int (nI (al + 1))), some (.int (nI i))], [.int (nI tx)], M)) rfl (fun _ => ?_) (fun z => absurd (g12.symm.trans z) (by decide))
                  refine q_Wp.gn 1 (c' := (108, [some (.ref 34), some (.int (nI S)), some (.int (nI g)), some (.int (nI (f + 0))), some (.int (nI tx)), some (.int (nI (al + 1))), some (.int (nI i))], [.int ((nI tx) + 0)], M)) rfl ?_
                  refine q_Wp.cv (c' := (108, [some (.ref 34), some (.int (nI S)), some (.int (nI g)), some (.int (nI (f + 0))), some (.int (nI tx)), some (.int (nI (al + 1))), some (.int (nI i))], [.int (nI (tx + 0))], M)) (by first | rw [nI_add0] | simp only [nI_add0]) ?_
                  refine q_Wp.gn 1 (c' := (113, [some (.ref 34), some (.int (nI S)), some (.int (nI g)), some (.int (nI (f + 0))), some (.int (nI (tx + 0))), some (.int (nI (al + 1))), some (.int ((nI i) + 1))], [], M)) rfl ?_
                  refine q_Wp.cv (c' := (113, [some (.ref 34), some (.int (nI S)), some (.int (nI g)), some (.int (nI (f + 0))), some (.int (nI (tx + 0))), some (.int (nI (al + 1))), some (.int (nI (i + 1)))], [], M)) (by first | rw [nI_1] | simp only [nI_1]) ?_
                  refine q_Wp.gn 0 (c' := (11, [some (.ref 34), some (.int (nI S)), some (.int (nI g)), some (.int (nI (f + 0))), some (.int (nI (tx + 0))), some (.int (nI (al + 1))), some (.int (nI (i + 1)))], [], M)) rfl ?_
                  exact ih (i + 1) ((f + 0)) ((tx + 0)) ((al + 1)) (by omega) (by first | (rw [s_ct, ← hf]; simp [p_f, g5, g6, g12, g13, g15]; done) | (exfalso; omega)) (by first | (rw [s_ct, ← ht]; simp [p_t, g5, g6, g12, g13, g15]; done) | (exfalso; omega)) (by first | (rw [s_ct, ← ha]; simp [p_a, g5, g6, g12, g13, g15]; done) | (exfalso; omega)) (by omega)
            · -- ffff
              refine q_Wp.gn 2 (c' := (58, [some (.ref 34), some (.int (nI S)), some (.int (nI g)), some (.int (nI f)), some (.int (nI tx)), some (.int (nI al)), some (.int (nI i))], [.int ((nI f) + 1)], M)) rfl ?_
              refine q_Wp.cv (c' := (58, [some (.ref 34), some (.int (nI S)), some (.int (nI g)), some (.int (nI f)), some (.int (nI tx)), some (.int (nI al)), some (.int (nI i))], [.int (nI (f + 1))], M)) (by first | rw [nI_1] | simp only [nI_1]) ?_
              refine q_Wp.gn 4 (c' := (67, [some (.ref 34), some (.int (nI S)), some (.int (nI g)), some (.int (nI (f + 1))), some (.int (nI tx)), some (.int (nI al)), some (.int (nI i))], [.int (nI i), .ref 35, .int (nI al)], M)) rfl ?_
              refine q_Wp.ild (i := i) rfl (rfl) rfl (by omega) (by decide) ?_
              show q_Wp X _ 78 (68, [some (.ref 34), some (.int (nI S)), some (.int (nI g)), some (.int (nI (f + 1))), some (.int (nI tx)), some (.int (nI al)), some (.int (nI i))], [.int (M.1 35 i), .int (nI al)], M) _
              refine q_Wp.cv (c' := (68, [some (.ref 34), some (.int (nI S)), some (.int (nI g)), some (.int (nI (f + 1))), some (.int (nI tx)), some (.int (nI al)), some (.int (nI i))], [.int (nI (fa i 0)), .int (nI al)], M)) (by first | rw [e0] | simp only [e0]) ?_
              refine q_Wp.gd 1 (¬ (nI (fa i 0)) = 1) (c1 := (76, [some (.ref 34), some (.int (nI S)), some (.int (nI g)), some (.int (nI (f + 1))), some (.int (nI tx)), some (.int (nI al)), some (.int (nI i))], [.int (nI al)], M)) (c2 := (72, [some (.ref 34), some (.int (nI S)), some (.int (nI g)), some (.int (nI (f + 1))), some (.int (nI tx)), some (.int (nI al)), some (.int (nI i))], [.int (nI al)], M)) rfl (fun g16 => ?_) (fun g16 => ?_)
              · -- fffft
                have g16 : ¬ (fa i 0) = 1 := fun z => g16 ((nI_eq (a := (fa i 0)) (b := 1) (by omega) (by omega)).mpr z)
                refine q_Wp.gn 1 (c' := (78, [some (.ref 34), some (.int (nI S)), some (.int (nI g)), some (.int (nI (f + 1))), some (.int (nI tx)), some (.int (nI al)), some (.int (nI i))], [.int ((nI al) + 0)], M)) rfl ?_
                refine q_Wp.cv (c' := (78, [some (.ref 34), some (.int (nI S)), some (.int (nI g)), some (.int (nI (f + 1))), some (.int (nI tx)), some (.int (nI al)), some (.int (nI i))], [.int (nI (al + 0))], M)) (by first | rw [nI_add0] | simp only [nI_add0]) ?_
                refine q_Wp.gn 4 (c' := (88, [some (.ref 34), some (.int (nI S)), some (.int (nI g)), some (.int (nI (f + 1))), some (.int (nI tx)), some (.int (nI (al + 0))), some (.int (nI i))], [.int (nI i), .ref 35, .int (nI tx)], M)) rfl ?_
                refine q_Wp.ild (i := i) rfl (rfl) rfl (by omega) (by decide) ?_
                show q_Wp X _ 78 (89, [some (.ref 34), some (.int (nI S)), some (.int (nI g)), some (.int (nI (f + 1))), some (.int (nI tx)), some (.int (nI (al + 0))), some (.int (nI i))], [.int (M.1 35 i), .int (nI tx)], M) _
                refine q_Wp.cv (c' := (89, [some (.ref 34), some (.int (nI S)), some (.int (nI g)), some (.int (nI (f + 1))), some (.int (nI tx)), some (.int (nI (al + 0))), some (.int (nI i))], [.int (nI (fa i 0)), .int (nI tx)], M)) (by first | rw [e0] | simp only [e0]) ?_
                refine q_Wp.gd 1 (¬ (nI (fa i 0)) = 1) (c1 := (106, [some (.ref 34), some (.int (nI S)), some (.int (nI g)), some (.int (nI (f + 1))), some (.int (nI tx)), some (.int (nI (al + 0))), some (.int (nI i))], [.int (nI tx)], M)) (c2 := (93, [some (.ref 34), some (.int (nI S)), some (.int (nI g)), some (.int (nI (f + 1))), some (.int (nI tx)), some (.int (nI (al + 0))), some (.int (nI i))], [.int (nI tx)], M)) rfl (fun g17 => ?_) (fun g17 => ?_)
                · -- fffftt
                  have g17 : ¬ (fa i 0) = 1 := fun z => g17 ((nI_eq (a := (fa i 0)) (b := 1) (by omega) (by omega)).mpr z)
                  refine q_Wp.gn 1 (c' := (108, [some (.ref 34), some (.int (nI S)), some (.int (nI g)), some (.int (nI (f + 1))), some (.int (nI tx)), some (.int (nI (al + 0))), some (.int (nI i))], [.int ((nI tx) + 0)], M)) rfl ?_
                  refine q_Wp.cv (c' := (108, [some (.ref 34), some (.int (nI S)), some (.int (nI g)), some (.int (nI (f + 1))), some (.int (nI tx)), some (.int (nI (al + 0))), some (.int (nI i))], [.int (nI (tx + 0))], M)) (by first | rw [nI_add0] | simp only [nI_add0]) ?_
                  refine q_Wp.gn 1 (c' := (113, [some (.ref 34), some (.int (nI S)), some (.int (nI g)), some (.int (nI (f + 1))), some (.int (nI (tx + 0))), some (.int (nI (al + 0))), some (.int ((nI i) + 1))], [], M)) rfl ?_
                  refine q_Wp.cv (c' := (113, [some (.ref 34), some (.int (nI S)), some (.int (nI g)), some (.int (nI (f + 1))), some (.int (nI (tx + 0))), some (.int (nI (al + 0))), some (.int (nI (i + 1)))], [], M)) (by first | rw [nI_1] | simp only [nI_1]) ?_
                  refine q_Wp.gn 0 (c' := (11, [some (.ref 34), some (.int (nI S)), some (.int (nI g)), some (.int (nI (f + 1))), some (.int (nI (tx + 0))), some (.int (nI (al + 0))), some (.int (nI (i + 1)))], [], M)) rfl ?_
                  exact ih (i + 1) ((f + 1)) ((tx + 0)) ((al + 0)) (by omega) (by first | (rw [s_ct, ← hf]; simp [p_f, g5, g6, g12, g16, g17]; done) | (exfalso; omega)) (by first | (rw [s_ct, ← ht]; simp [p_t, g5, g6, g12, g16, g17]; done) | (exfalso; omega)) (by first | (rw [s_ct, ← ha]; simp [p_a, g5, g6, g12, g16, g17]; done) | (exfalso; omega)) (by omega)
                · -- fffftf
                  have g17 : (fa i 0) = 1 := (nI_eq (a := (fa i 0)) (b := 1) (by omega) (by omega)).mp (Classical.byContradiction g17)
                  refine q_Wp.gc 2 (mj := 77) (as := [.int (nI S), .int (nI i)]) (pc := 99) (ls := [some (.ref 34), some (.int (nI S)), some (.int (nI g)), some (.int (nI (f + 1))), some (.int (nI tx)), some (.int (nI (al + 0))), some (.int (nI i))]) (st := [.int (nI tx)]) (M := M) (r1 := some (.int (q_b (S.testBit i)))) (M1 := M) rfl (c_mhas X d (S := S) (q := i) hS (by omega) M) ?_
                  show q_Wp X _ 78 (99, [some (.ref 34), some (.int (nI S)), some (.int (nI g)), some (.int (nI (f + 1))), some (.int (nI tx)), some (.int (nI (al + 0))), some (.int (nI i))], [.int (q_b (S.testBit i)), .int (nI tx)], M) _
                  refine q_Wp.ge0 0 (b := (S.testBit i)) (c1 := (106, [some (.ref 34), some (.int (nI S)), some (.int (nI g)), some (.int (nI (f + 1))), some (.int (nI tx)), some (.int (nI (al + 0))), some (.int (nI i))], [.int (nI tx)], M)) (c2 := (102, [some (.ref 34), some (.int (nI S)), some (.int (nI g)), some (.int (nI (f + 1))), some (.int (nI tx)), some (.int (nI (al + 0))), some (.int (nI i))], [.int (nI tx)], M)) rfl (fun z => absurd (g12.symm.trans z) (by decide)) (fun _ => ?_)
                  refine q_Wp.gn 2 (c' := (108, [some (.ref 34), some (.int (nI S)), some (.int (nI g)), some (.int (nI (f + 1))), some (.int (nI tx)), some (.int (nI (al + 0))), some (.int (nI i))], [.int ((nI tx) + 1)], M)) rfl ?_
                  refine q_Wp.cv (c' := (108, [some (.ref 34), some (.int (nI S)), some (.int (nI g)), some (.int (nI (f + 1))), some (.int (nI tx)), some (.int (nI (al + 0))), some (.int (nI i))], [.int (nI (tx + 1))], M)) (by first | rw [nI_1] | simp only [nI_1]) ?_
                  refine q_Wp.gn 1 (c' := (113, [some (.ref 34), some (.int (nI S)), some (.int (nI g)), some (.int (nI (f + 1))), some (.int (nI (tx + 1))), some (.int (nI (al + 0))), some (.int ((nI i) + 1))], [], M)) rfl ?_
                  refine q_Wp.cv (c' := (113, [some (.ref 34), some (.int (nI S)), some (.int (nI g)), some (.int (nI (f + 1))), some (.int (nI (tx + 1))), some (.int (nI (al + 0))), some (.int (nI (i + 1)))], [], M)) (by first | rw [nI_1] | simp only [nI_1]) ?_
                  refine q_Wp.gn 0 (c' := (11, [some (.ref 34), some (.int (nI S)), some (.int (nI g)), some (.int (nI (f + 1))), some (.int (nI (tx + 1))), some (.int (nI (al + 0))), some (.int (nI (i + 1)))], [], M)) rfl ?_
                  exact ih (i + 1) ((f + 1)) ((tx + 1)) ((al + 0)) (by omega) (by first | (rw [s_ct, ← hf]; simp [p_f, g5, g6, g12, g16, g17]; done) | (exfalso; omega)) (by first | (rw [s_ct, ← ht]; simp [p_t, g5, g6, g12, g16, g17]; done) | (exfalso; omega)) (by first | (rw [s_ct, ← ha]; simp [p_a, g5, g6, g12, g16, g17]; done) | (exfalso; omega)) (by omega)
              · -- fffff
                have g16 : (fa i 0) = 1 := (nI_eq (a := (fa i 0)) (b := 1) (by omega) (by omega)).mp (Classical.byContradiction g16)
                refine q_Wp.gn 2 (c' := (78, [some (.ref 34), some (.int (nI S)), some (.int (nI g)), some (.int (nI (f + 1))), some (.int (nI tx)), some (.int (nI al)), some (.int (nI i))], [.int ((nI al) + 1)], M)) rfl ?_
                refine q_Wp.cv (c' := (78, [some (.ref 34), some (.int (nI S)), some (.int (nI g)), some (.int (nI (f + 1))), some (.int (nI tx)), some (.int (nI al)), some (.int (nI i))], [.int (nI (al + 1))], M)) (by first | rw [nI_1] | simp only [nI_1]) ?_
                refine q_Wp.gn 4 (c' := (88, [some (.ref 34), some (.int (nI S)), some (.int (nI g)), some (.int (nI (f + 1))), some (.int (nI tx)), some (.int (nI (al + 1))), some (.int (nI i))], [.int (nI i), .ref 35, .int (nI tx)], M)) rfl ?_
                refine q_Wp.ild (i := i) rfl (rfl) rfl (by omega) (by decide) ?_
                show q_Wp X _ 78 (89, [some (.ref 34), some (.int (nI S)), some (.int (nI g)), some (.int (nI (f + 1))), some (.int (nI tx)), some (.int (nI (al + 1))), some (.int (nI i))], [.int (M.1 35 i), .int (nI tx)], M) _
                refine q_Wp.cv (c' := (89, [some (.ref 34), some (.int (nI S)), some (.int (nI g)), some (.int (nI (f + 1))), some (.int (nI tx)), some (.int (nI (al + 1))), some (.int (nI i))], [.int (nI (fa i 0)), .int (nI tx)], M)) (by first | rw [e0] | simp only [e0]) ?_
                refine q_Wp.gd 1 (¬ (nI (fa i 0)) = 1) (c1 := (106, [some (.ref 34), some (.int (nI S)), some (.int (nI g)), some (.int (nI (f + 1))), some (.int (nI tx)), some (.int (nI (al + 1))), some (.int (nI i))], [.int (nI tx)], M)) (c2 := (93, [some (.ref 34), some (.int (nI S)), some (.int (nI g)), some (.int (nI (f + 1))), some (.int (nI tx)), some (.int (nI (al + 1))), some (.int (nI i))], [.int (nI tx)], M)) rfl (fun g18 => ?_) (fun g18 => ?_)
                · -- ffffft
                  have g18 : ¬ (fa i 0) = 1 := fun z => g18 ((nI_eq (a := (fa i 0)) (b := 1) (by omega) (by omega)).mpr z)
                  refine q_Wp.gn 1 (c' := (108, [some (.ref 34), some (.int (nI S)), some (.int (nI g)), some (.int (nI (f + 1))), some (.int (nI tx)), some (.int (nI (al + 1))), some (.int (nI i))], [.int ((nI tx) + 0)], M)) rfl ?_
                  refine q_Wp.cv (c' := (108, [some (.ref 34), some (.int (nI S)), some (.int (nI g)), some (.int (nI (f + 1))), some (.int (nI tx)), some (.int (nI (al + 1))), some (.int (nI i))], [.int (nI (tx + 0))], M)) (by first | rw [nI_add0] | simp only [nI_add0]) ?_
                  refine q_Wp.gn 1 (c' := (113, [some (.ref 34), some (.int (nI S)), some (.int (nI g)), some (.int (nI (f + 1))), some (.int (nI (tx + 0))), some (.int (nI (al + 1))), some (.int ((nI i) + 1))], [], M)) rfl ?_
                  refine q_Wp.cv (c' := (113, [some (.ref 34), some (.int (nI S)), some (.int (nI g)), some (.int (nI (f + 1))), some (.int (nI (tx + 0))), some (.int (nI (al + 1))), some (.int (nI (i + 1)))], [], M)) (by first | rw [nI_1] | simp only [nI_1]) ?_
                  refine q_Wp.gn 0 (c' := (11, [some (.ref 34), some (.int (nI S)), some (.int (nI g)), some (.int (nI (f + 1))), some (.int (nI (tx + 0))), some (.int (nI (al + 1))), some (.int (nI (i + 1)))], [], M)) rfl ?_
                  exact ih (i + 1) ((f + 1)) ((tx + 0)) ((al + 1)) (by omega) (by first | (rw [s_ct, ← hf]; simp [p_f, g5, g6, g12, g16, g18]; done) | (exfalso; omega)) (by first | (rw [s_ct, ← ht]; simp [p_t, g5, g6, g12, g16, g18]; done) | (exfalso; omega)) (by first | (rw [s_ct, ← ha]; simp [p_a, g5, g6, g12, g16, g18]; done) | (exfalso; omega)) (by omega)
                · -- ffffff
                  have g18 : (fa i 0) = 1 := (nI_eq (a := (fa i 0)) (b := 1) (by omega) (by omega)).mp (Classical.byContradiction g18)
                  refine q_Wp.gc 2 (mj := 77) (as := [.int (nI S), .int (nI i)]) (pc := 99) (ls := [some (.ref 34), some (.int (nI S)), some (.int (nI g)), some (.int (nI (f + 1))), some (.int (nI tx)), some (.int (nI (al + 1))), some (.int (nI i))]) (st := [.int (nI tx)]) (M := M) (r1 := some (.int (q_b (S.testBit i)))) (M1 := M) rfl (c_mhas X d (S := S) (q := i) hS (by omega) M) ?_
                  show q_Wp X _ 78 (99, [some (.ref 34), some (.int (nI S)), some (.int (nI g)), some (.int (nI (f + 1))), some (.int (nI tx)), some (.int (nI (al + 1))), some (.int (nI i))], [.int (q_b (S.testBit i)), .int (nI tx)], M) _
                  refine q_Wp.ge0 0 (b := (S.testBit i)) (c1 := (106, [some (.ref 34), some (.int (nI S)), some (.int (nI g)), some (.int (nI (f + 1))), some (.int (nI tx)), some (.int (nI (al + 1))), some (.int (nI i))], [.int (nI tx)], M)) (c2 := (102, [some (.ref 34), some (.int (nI S)), some (.int (nI g)), some (.int (nI (f + 1))), some (.int (nI tx)), some (.int (nI (al + 1))), some (.int (nI i))], [.int (nI tx)], M)) rfl (fun z => absurd (g12.symm.trans z) (by decide)) (fun _ => ?_)
                  refine q_Wp.gn 2 (c' := (108, [some (.ref 34), some (.int (nI S)), some (.int (nI g)), some (.int (nI (f + 1))), some (.int (nI tx)), some (.int (nI (al + 1))), some (.int (nI i))], [.int ((nI tx) + 1)], M)) rfl ?_
                  refine q_Wp.cv (c' := (108, [some (.ref 34), some (.int (nI S)), some (.int (nI g)), some (.int (nI (f + 1))), some (.int (nI tx)), some (.int (nI (al + 1))), some (.int (nI i))], [.int (nI (tx + 1))], M)) (by first | rw [nI_1] | simp only [nI_1]) ?_
                  refine q_Wp.gn 1 (c' := (113, [some (.ref 34), some (.int (nI S)), some (.int (nI g)), some (.int (nI (f + 1))), some (.int (nI (tx + 1))), some (.int (nI (al + 1))), some (.int ((nI i) + 1))], [], M)) rfl ?_
                  refine q_Wp.cv (c' := (113, [some (.ref 34), some (.int (nI S)), some (.int (nI g)), some (.int (nI (f + 1))), some (.int (nI (tx + 1))), some (.int (nI (al + 1))), some (.int (nI (i + 1)))], [], M)) (by first | rw [nI_1] | simp only [nI_1]) ?_
                  refine q_Wp.gn 0 (c' := (11, [some (.ref 34), some (.int (nI S)), some (.int (nI g)), some (.int (nI (f + 1))), some (.int (nI (tx + 1))), some (.int (nI (al + 1))), some (.int (nI (i + 1)))], [], M)) rfl ?_
                  exact ih (i + 1) ((f + 1)) ((tx + 1)) ((al + 1)) (by omega) (by first | (rw [s_ct, ← hf]; simp [p_f, g5, g6, g12, g16, g18]; done) | (exfalso; omega)) (by first | (rw [s_ct, ← ht]; simp [p_t, g5, g6, g12, g16, g18]; done) | (exfalso; omega)) (by first | (rw [s_ct, ← ha]; simp [p_a, g5, g6, g12, g16, g18]; done) | (exfalso; omega)) (by omega)
  refine q_Wp.gn 7 (c' := (11, [some (.ref 34), some (.int (nI S)), some (.int (nI g)), some (.int 0), some (.int 0), some (.int 0), some (.int 0)], [], M)) rfl ?_
  exact key (n + 1) 0 0 0 0 (by omega) rfl rfl rfl (by omega)

set_option maxRecDepth 10000 in
theorem c_isFitM (X : q_X) (d : Nat) {n S : Nat} {fa : Nat → Nat → Nat} {sh : Nat → Int32} (hO : ok_bank n fa) (hS : S < 1024) (M : q_M) (hB : m_bank n fa sh M) : q_Ev X (d + 3) 79 [.ref 34, .int (nI S)] M (some (.int (q_b (s_mf n fa sh (M.1 41) (M.1 42) (M.1 34 7) S)))) (M) := by
  refine q_Ev.ofW rfl ?_
  show q_Wp X _ 79 (0, [some (.ref 34), some (.int (nI S)), none, none, none, none, none], [], M) _
  have hn := hO.1
  have key2 : ∀ (c : Nat), c = s_ct n (fun q => S.testBit q) → ∀ (kz : Nat) (cc : Nat) (wl : Bool) (z5 z6 : Option Value), cc ≤ 3 → wl = (s_all n (p_1 fa sh S) && s_all cc (p_2 n fa (M.1 41) (M.1 42) S)) → 3 - cc < kz → q_Wp X (d + 2) 79 (92, [some (.ref 34), some (.int (nI S)), some (.int (nI c)), some (.int (q_b wl)), some (.int (nI cc)), z5, z6], [], M) (fun r M' => r = some (.int (q_b (s_mf n fa sh (M.1 41) (M.1 42) (M.1 34 7) S))) ∧ M' = M) := by
    intro c hc kz
    have hcl := s_ct_le (fun q => S.testBit q) n
    induction kz with
    | zero => intro cc wl z5 z6 hcc hw hm; exact absurd hm (by omega)
    | succ kz ih2 =>
      intro cc wl z5 z6 hcc hw hm
      refine q_Wp.gd 2 (3 ≤ (nI cc)) (c1 := (198, [some (.ref 34), some (.int (nI S)), some (.int (nI c)), some (.int (q_b wl)), some (.int (nI cc)), z5, z6], [], M)) (c2 := (98, [some (.ref 34), some (.int (nI S)), some (.int (nI c)), some (.int (q_b wl)), some (.int (nI cc)), z5, z6], [], M)) rfl (fun g1 => ?_) (fun g1 => ?_)
      · -- t
        have g1 : 3 ≤ cc := (nI_leI (a := 3) (b := cc) (by omega) (by omega)).mp g1
        refine q_Wp.ge0 1 (b := wl) (c1 := (214, [some (.ref 34), some (.int (nI S)), some (.int (nI c)), some (.int (q_b wl)), some (.int (nI cc)), z5, z6], [], M)) (c2 := (202, [some (.ref 34), some (.int (nI S)), some (.int (nI c)), some (.int (q_b wl)), some (.int (nI cc)), z5, z6], [], M)) rfl (fun g2 => ?_) (fun g2 => ?_)
        · -- tt
          refine q_Wp.gn 0 (c' := (215, [some (.ref 34), some (.int (nI S)), some (.int (nI c)), some (.int (q_b wl)), some (.int (nI cc)), z5, z6], [.int 0], M)) rfl ?_
          refine q_Wp.rt rfl rfl ?_
          (have e : cc = 3 := by omega)
          subst e
          have hh : s_mf n fa sh (M.1 41) (M.1 42) (M.1 34 7) S = false := by rw [s_mf, ← hw, ← hc]; simp [g2]
          rw [hh]
          exact ⟨rfl, rfl⟩
        · -- tf
          refine q_Wp.gd 3 ((M.1 34 7) < (nI c)) (c1 := (214, [some (.ref 34), some (.int (nI S)), some (.int (nI c)), some (.int (q_b wl)), some (.int (nI cc)), z5, z6], [], M)) (c2 := (210, [some (.ref 34), some (.int (nI S)), some (.int (nI c)), some (.int (q_b wl)), some (.int (nI cc)), z5, z6], [], M)) rfl (fun g3 => ?_) (fun g3 => ?_)
          · -- tft
            refine q_Wp.gn 0 (c' := (215, [some (.ref 34), some (.int (nI S)), some (.int (nI c)), some (.int (q_b wl)), some (.int (nI cc)), z5, z6], [.int 0], M)) rfl ?_
            refine q_Wp.rt rfl rfl ?_
            (have e : cc = 3 := by omega)
            subst e
            have hh : s_mf n fa sh (M.1 41) (M.1 42) (M.1 34 7) S = false := by rw [s_mf, ← hw, ← hc]; simp [g2, g3]
            rw [hh]
            exact ⟨rfl, rfl⟩
          · -- tff
            refine q_Wp.gn 1 (c' := (215, [some (.ref 34), some (.int (nI S)), some (.int (nI c)), some (.int (q_b wl)), some (.int (nI cc)), z5, z6], [.int 1], M)) rfl ?_
            refine q_Wp.rt rfl rfl ?_
            (have e : cc = 3 := by omega)
            subst e
            have hh : s_mf n fa sh (M.1 41) (M.1 42) (M.1 34 7) S = true := by rw [s_mf, ← hw, ← hc]; simp [g2, g3, Int32.not_lt.mp g3]
            rw [hh]
            exact ⟨rfl, rfl⟩
      · -- f
        have g1 : ¬ 3 ≤ cc := fun z => g1 ((nI_leI (a := 3) (b := cc) (by omega) (by omega)).mpr z)
        refine q_Wp.gn 3 (c' := (104, [some (.ref 34), some (.int (nI S)), some (.int (nI c)), some (.int (q_b wl)), some (.int (nI cc)), some (.int 0), some (.int 0)], [], M)) rfl ?_
        have key3 : ∀ (kz : Nat) (i o : Nat), i ≤ n → o = s_ct i (p_c fa S cc) → n - i < kz → q_Wp X (d + 2) 79 (104, [some (.ref 34), some (.int (nI S)), some (.int (nI c)), some (.int (q_b wl)), some (.int (nI cc)), some (.int (nI o)), some (.int (nI i))], [], M) (fun r M' => r = some (.int (q_b (s_mf n fa sh (M.1 41) (M.1 42) (M.1 34 7) S))) ∧ M' = M) := by
          intro kz
          induction kz with
          | zero => intro i o hi ho hm; exact absurd hm (by omega)
          | succ kz ih3 =>
            intro i o hi ho hm
            have hol := s_ct_le (p_c fa S cc) i
            refine q_Wp.gn 2 (c' := (110, [some (.ref 34), some (.int (nI S)), some (.int (nI c)), some (.int (q_b wl)), some (.int (nI cc)), some (.int (nI o)), some (.int (nI i))], [.int (M.1 34 0), .int (nI i)], M)) rfl ?_
            refine q_Wp.cv (c' := (110, [some (.ref 34), some (.int (nI S)), some (.int (nI c)), some (.int (q_b wl)), some (.int (nI cc)), some (.int (nI o)), some (.int (nI i))], [.int (nI n), .int (nI i)], M)) (by first | rw [hB.1] | simp only [hB.1]) ?_
            refine q_Wp.gd 0 ((nI n) ≤ (nI i)) (c1 := (150, [some (.ref 34), some (.int (nI S)), some (.int (nI c)), some (.int (q_b wl)), some (.int (nI cc)), some (.int (nI o)), some (.int (nI i))], [], M)) (c2 := (113, [some (.ref 34), some (.int (nI S)), some (.int (nI c)), some (.int (q_b wl)), some (.int (nI cc)), some (.int (nI o)), some (.int (nI i))], [], M)) rfl (fun j1 => ?_) (fun j1 => ?_)
            · -- t
              have j1 : n ≤ i := (nI_leI (a := n) (b := i) (by omega) (by omega)).mp j1
              refine q_Wp.ge0 1 (b := wl) (c1 := (190, [some (.ref 34), some (.int (nI S)), some (.int (nI c)), some (.int (q_b wl)), some (.int (nI cc)), some (.int (nI o)), some (.int (nI i))], [], M)) (c2 := (154, [some (.ref 34), some (.int (nI S)), some (.int (nI c)), some (.int (q_b wl)), some (.int (nI cc)), some (.int (nI o)), some (.int (nI i))], [], M)) rfl (fun j2 => ?_) (fun j2 => ?_)
              · -- tt
                refine q_Wp.gn 2 (c' := (195, [some (.ref 34), some (.int (nI S)), some (.int (nI c)), some (.int 0), some (.int ((nI cc) + 1)), some (.int (nI o)), some (.int (nI i))], [], M)) rfl ?_
                refine q_Wp.cv (c' := (195, [some (.ref 34), some (.int (nI S)), some (.int (nI c)), some (.int 0), some (.int (nI (cc + 1))), some (.int (nI o)), some (.int (nI i))], [], M)) (by first | rw [nI_1] | simp only [nI_1]) ?_
                refine q_Wp.gn 0 (c' := (92, [some (.ref 34), some (.int (nI S)), some (.int (nI c)), some (.int 0), some (.int (nI (cc + 1))), some (.int (nI o)), some (.int (nI i))], [], M)) rfl ?_
                exact ih2 (cc + 1) false _ _ (by omega) (by (have e : i = n := by omega); subst e; rw [s_all, ← Bool.and_assoc, ← hw, p_2, ← ho]; simp [j2]) (by omega)
              · -- tf
                refine q_Wp.gn 3 (c' := (162, [some (.ref 34), some (.int (nI S)), some (.int (nI c)), some (.int (q_b wl)), some (.int (nI cc)), some (.int (nI o)), some (.int (nI i))], [.int (nI cc), .ref 41, .int (nI o)], M)) rfl ?_
                refine q_Wp.ild (i := cc) rfl (rfl) rfl (by omega) (by decide) ?_
                show q_Wp X _ 79 (163, [some (.ref 34), some (.int (nI S)), some (.int (nI c)), some (.int (q_b wl)), some (.int (nI cc)), some (.int (nI o)), some (.int (nI i))], [.int (M.1 41 cc), .int (nI o)], M) _
                refine q_Wp.gn 2 (c' := (169, [some (.ref 34), some (.int (nI S)), some (.int (nI c)), some (.int (q_b wl)), some (.int (nI cc)), some (.int (nI o)), some (.int (nI i))], [.int (nI cc), .ref 42, .int (M.1 41 cc), .int (nI o)], M)) rfl ?_
                refine q_Wp.ild (i := cc) rfl (rfl) rfl (by omega) (by decide) ?_
                show q_Wp X _ 79 (170, [some (.ref 34), some (.int (nI S)), some (.int (nI c)), some (.int (q_b wl)), some (.int (nI cc)), some (.int (nI o)), some (.int (nI i))], [.int (M.1 42 cc), .int (M.1 41 cc), .int (nI o)], M) _
                refine q_Wp.gc 0 (mj := 67) (as := [.int (nI o), .int (M.1 41 cc), .int (M.1 42 cc)]) (pc := 173) (ls := [some (.ref 34), some (.int (nI S)), some (.int (nI c)), some (.int (q_b wl)), some (.int (nI cc)), some (.int (nI o)), some (.int (nI i))]) (st := []) (M := M) (r1 := some (.int (q_b (s_in (nI o) (M.1 41 cc) (M.1 42 cc))))) (M1 := M) rfl (c_in X (d + 1) (nI o) (M.1 41 cc) (M.1 42 cc) M) ?_
                show q_Wp X _ 79 (173, [some (.ref 34), some (.int (nI S)), some (.int (nI c)), some (.int (q_b wl)), some (.int (nI cc)), some (.int (nI o)), some (.int (nI i))], [.int (q_b (s_in (nI o) (M.1 41 cc) (M.1 42 cc)))], M) _
                refine q_Wp.ge0 0 (b := (s_in (nI o) (M.1 41 cc) (M.1 42 cc))) (c1 := (190, [some (.ref 34), some (.int (nI S)), some (.int (nI c)), some (.int (q_b wl)), some (.int (nI cc)), some (.int (nI o)), some (.int (nI i))], [], M)) (c2 := (176, [some (.ref 34), some (.int (nI S)), some (.int (nI c)), some (.int (q_b wl)), some (.int (nI cc)), some (.int (nI o)), some (.int (nI i))], [], M)) rfl (fun j3 => ?_) (fun j3 => ?_)
                · -- tft
                  refine q_Wp.gn 2 (c' := (195, [some (.ref 34), some (.int (nI S)), some (.int (nI c)), some (.int 0), some (.int ((nI cc) + 1)), some (.int (nI o)), some (.int (nI i))], [], M)) rfl ?_
                  refine q_Wp.cv (c' := (195, [some (.ref 34), some (.int (nI S)), some (.int (nI c)), some (.int 0), some (.int (nI (cc + 1))), some (.int (nI o)), some (.int (nI i))], [], M)) (by first | rw [nI_1] | simp only [nI_1]) ?_
                  refine q_Wp.gn 0 (c' := (92, [some (.ref 34), some (.int (nI S)), some (.int (nI c)), some (.int 0), some (.int (nI (cc + 1))), some (.int (nI o)), some (.int (nI i))], [], M)) rfl ?_
                  exact ih2 (cc + 1) false _ _ (by omega) (by (have e : i = n := by omega); subst e; rw [s_all, ← Bool.and_assoc, ← hw, p_2, ← ho]; simp [j2, j3]) (by omega)
                · -- tff
                  refine q_Wp.gc 3 (mj := 78) (as := [.ref 34, .int (nI S), .int (nI cc)]) (pc := 183) (ls := [some (.ref 34), some (.int (nI S)), some (.int (nI c)), some (.int (q_b wl)), some (.int (nI cc)), some (.int (nI o)), some (.int (nI i))]) (st := []) (M := M) (r1 := some (.int (q_b (s_gw n fa S cc)))) (M1 := M) rfl (c_isGroupWell X d (n := n) (S := S) (g := cc) (fa := fa) (sh := sh) hO hS (by omega) M hB) ?_
                  show q_Wp X _ 79 (183, [some (.ref 34), some (.int (nI S)), some (.int (nI c)), some (.int (q_b wl)), some (.int (nI cc)), some (.int (nI o)), some (.int (nI i))], [.int (q_b (s_gw n fa S cc))], M) _
                  refine q_Wp.ge0 0 (b := (s_gw n fa S cc)) (c1 := (190, [some (.ref 34), some (.int (nI S)), some (.int (nI c)), some (.int (q_b wl)), some (.int (nI cc)), some (.int (nI o)), some (.int (nI i))], [], M)) (c2 := (186, [some (.ref 34), some (.int (nI S)), some (.int (nI c)), some (.int (q_b wl)), some (.int (nI cc)), some (.int (nI o)), some (.int (nI i))], [], M)) rfl (fun j4 => ?_) (fun j4 => ?_)
                  · -- tfft
                    refine q_Wp.gn 2 (c' := (195, [some (.ref 34), some (.int (nI S)), some (.int (nI c)), some (.int 0), some (.int ((nI cc) + 1)), some (.int (nI o)), some (.int (nI i))], [], M)) rfl ?_
                    refine q_Wp.cv (c' := (195, [some (.ref 34), some (.int (nI S)), some (.int (nI c)), some (.int 0), some (.int (nI (cc + 1))), some (.int (nI o)), some (.int (nI i))], [], M)) (by first | rw [nI_1] | simp only [nI_1]) ?_
                    refine q_Wp.gn 0 (c' := (92, [some (.ref 34), some (.int (nI S)), some (.int (nI c)), some (.int 0), some (.int (nI (cc + 1))), some (.int (nI o)), some (.int (nI i))], [], M)) rfl ?_
                    exact ih2 (cc + 1) false _ _ (by omega) (by (have e : i = n := by omega); subst e; rw [s_all, ← Bool.and_assoc, ← hw, p_2, ← ho]; simp [j2, j3, j4]) (by omega)
                  · -- tfff
                    refine q_Wp.gn 3 (c' := (195, [some (.ref 34), some (.int (nI S)), some (.int (nI c)), some (.int 1), some (.int ((nI cc) + 1)), some (.int (nI o)), some (.int (nI i))], [], M)) rfl ?_
                    refine q_Wp.cv (c' := (195, [some (.ref 34), some (.int (nI S)), some (.int (nI c)), some (.int 1), some (.int (nI (cc + 1))), some (.int (nI o)), some (.int (nI i))], [], M)) (by first | rw [nI_1] | simp only [nI_1]) ?_
                    refine q_Wp.gn 0 (c' := (92, [some (.ref 34), some (.int (nI S)), some (.int (nI c)), some (.int 1), some (.int (nI (cc + 1))), some (.int (nI o)), some (.int (nI i))], [], M)) rfl ?_
                    exact ih2 (cc + 1) true _ _ (by omega) (by (have e : i = n := by omega); subst e; rw [s_all, ← Bool.and_assoc, ← hw, p_2, ← ho]; simp [j2, j3, j4]) (by omega)
            · -- f
              have j1 : ¬ n ≤ i := fun z => j1 ((nI_leI (a := n) (b := i) (by omega) (by omega)).mpr z)
              obtain ⟨e0, e1, e2, e3, e4, -⟩ := hB.2 i (by omega)
              obtain ⟨o0, o1, o2, o3, o4, -⟩ := hO.2 i (by omega)
              refine q_Wp.gc 3 (mj := 77) (as := [.int (nI S), .int (nI i)]) (pc := 121) (ls := [some (.ref 34), some (.int (nI S)), some (.int (nI c)), some (.int (q_b wl)), some (.int (nI cc)), some (.int (nI o)), some (.int (nI i))]) (st := [.int (nI o)]) (M := M) (r1 := some (.int (q_b (S.testBit i)))) (M1 := M) rfl (c_mhas X (d + 1) (S := S) (q := i) hS (by omega) M) ?_
              show q_Wp X _ 79 (121, [some (.ref 34), some (.int (nI S)), some (.int (nI c)), some (.int (q_b wl)), some (.int (nI cc)), some (.int (nI o)), some (.int (nI i))], [.int (q_b (S.testBit i)), .int (nI o)], M) _
              refine q_Wp.ge0 0 (b := (S.testBit i)) (c1 := (140, [some (.ref 34), some (.int (nI S)), some (.int (nI c)), some (.int (q_b wl)), some (.int (nI cc)), some (.int (nI o)), some (.int (nI i))], [.int (nI o)], M)) (c2 := (124, [some (.ref 34), some (.int (nI S)), some (.int (nI c)), some (.int (q_b wl)), some (.int (nI cc)), some (.int (nI o)), some (.int (nI i))], [.int (nI o)], M)) rfl (fun j5 => ?_) (fun j5 => ?_)
              · -- ft
                refine q_Wp.gn 1 (c' := (142, [some (.ref 34), some (.int (nI S)), some (.int (nI c)), some (.int (q_b wl)), some (.int (nI cc)), some (.int (nI o)), some (.int (nI i))], [.int ((nI o) + 0)], M)) rfl ?_
                refine q_Wp.cv (c' := (142, [some (.ref 34), some (.int (nI S)), some (.int (nI c)), some (.int (q_b wl)), some (.int (nI cc)), some (.int (nI o)), some (.int (nI i))], [.int (nI (o + 0))], M)) (by first | rw [nI_add0] | simp only [nI_add0]) ?_
                refine q_Wp.gn 1 (c' := (147, [some (.ref 34), some (.int (nI S)), some (.int (nI c)), some (.int (q_b wl)), some (.int (nI cc)), some (.int (nI (o + 0))), some (.int ((nI i) + 1))], [], M)) rfl ?_
                refine q_Wp.cv (c' := (147, [some (.ref 34), some (.int (nI S)), some (.int (nI c)), some (.int (q_b wl)), some (.int (nI cc)), some (.int (nI (o + 0))), some (.int (nI (i + 1)))], [], M)) (by first | rw [nI_1] | simp only [nI_1]) ?_
                refine q_Wp.gn 0 (c' := (104, [some (.ref 34), some (.int (nI S)), some (.int (nI c)), some (.int (q_b wl)), some (.int (nI cc)), some (.int (nI (o + 0))), some (.int (nI (i + 1)))], [], M)) rfl ?_
                exact ih3 (i + 1) ((o + 0)) (by omega) (by rw [s_ct, ← ho]; simp [p_c, j5]) (by omega)
              · -- ff
                refine q_Wp.gn 2 (c' := (130, [some (.ref 34), some (.int (nI S)), some (.int (nI c)), some (.int (q_b wl)), some (.int (nI cc)), some (.int (nI o)), some (.int (nI i))], [.int (nI i), .ref 37, .int (nI o)], M)) rfl ?_
                refine q_Wp.ild (i := i) rfl (rfl) rfl (by omega) (by decide) ?_
                show q_Wp X _ 79 (131, [some (.ref 34), some (.int (nI S)), some (.int (nI c)), some (.int (q_b wl)), some (.int (nI cc)), some (.int (nI o)), some (.int (nI i))], [.int (M.1 37 i), .int (nI o)], M) _
                refine q_Wp.cv (c' := (131, [some (.ref 34), some (.int (nI S)), some (.int (nI c)), some (.int (q_b wl)), some (.int (nI cc)), some (.int (nI o)), some (.int (nI i))], [.int (nI (fa i 2)), .int (nI o)], M)) (by first | rw [e2] | simp only [e2]) ?_
                refine q_Wp.gd 1 (¬ (nI (fa i 2)) = (nI cc)) (c1 := (140, [some (.ref 34), some (.int (nI S)), some (.int (nI c)), some (.int (q_b wl)), some (.int (nI cc)), some (.int (nI o)), some (.int (nI i))], [.int (nI o)], M)) (c2 := (136, [some (.ref 34), some (.int (nI S)), some (.int (nI c)), some (.int (q_b wl)), some (.int (nI cc)), some (.int (nI o)), some (.int (nI i))], [.int (nI o)], M)) rfl (fun j6 => ?_) (fun j6 => ?_)
                · -- fft
                  have j6 : ¬ (fa i 2) = cc := fun z => j6 ((nI_eq (a := (fa i 2)) (b := cc) (by omega) (by omega)).mpr z)
                  refine q_Wp.gn 1 (c' := (142, [some (.ref 34), some (.int (nI S)), some (.int (nI c)), some (.int (q_b wl)), some (.int (nI cc)), some (.int (nI o)), some (.int (nI i))], [.int ((nI o) + 0)], M)) rfl ?_
                  refine q_Wp.cv (c' := (142, [some (.ref 34), some (.int (nI S)), some (.int (nI c)), some (.int (q_b wl)), some (.int (nI cc)), some (.int (nI o)), some (.int (nI i))], [.int (nI (o + 0))], M)) (by first | rw [nI_add0] | simp only [nI_add0]) ?_
                  refine q_Wp.gn 1 (c' := (147, [some (.ref 34), some (.int (nI S)), some (.int (nI c)), some (.int (q_b wl)), some (.int (nI cc)), some (.int (nI (o + 0))), some (.int ((nI i) + 1))], [], M)) rfl ?_
                  refine q_Wp.cv (c' := (147, [some (.ref 34), some (.int (nI S)), some (.int (nI c)), some (.int (q_b wl)), some (.int (nI cc)), some (.int (nI (o + 0))), some (.int (nI (i + 1)))], [], M)) (by first | rw [nI_1] | simp only [nI_1]) ?_
                  refine q_Wp.gn 0 (c' := (104, [some (.ref 34), some (.int (nI S)), some (.int (nI c)), some (.int (q_b wl)), some (.int (nI cc)), some (.int (nI (o + 0))), some (.int (nI (i + 1)))], [], M)) rfl ?_
                  exact ih3 (i + 1) ((o + 0)) (by omega) (by rw [s_ct, ← ho]; simp [p_c, j5, j6]) (by omega)
                · -- fff
                  have j6 : (fa i 2) = cc := (nI_eq (a := (fa i 2)) (b := cc) (by omega) (by omega)).mp (Classical.byContradiction j6)
                  refine q_Wp.gn 2 (c' := (142, [some (.ref 34), some (.int (nI S)), some (.int (nI c)), some (.int (q_b wl)), some (.int (nI cc)), some (.int (nI o)), some (.int (nI i))], [.int ((nI o) + 1)], M)) rfl ?_
                  refine q_Wp.cv (c' := (142, [some (.ref 34), some (.int (nI S)), some (.int (nI c)), some (.int (q_b wl)), some (.int (nI cc)), some (.int (nI o)), some (.int (nI i))], [.int (nI (o + 1))], M)) (by first | rw [nI_1] | simp only [nI_1]) ?_
                  refine q_Wp.gn 1 (c' := (147, [some (.ref 34), some (.int (nI S)), some (.int (nI c)), some (.int (q_b wl)), some (.int (nI cc)), some (.int (nI (o + 1))), some (.int ((nI i) + 1))], [], M)) rfl ?_
                  refine q_Wp.cv (c' := (147, [some (.ref 34), some (.int (nI S)), some (.int (nI c)), some (.int (q_b wl)), some (.int (nI cc)), some (.int (nI (o + 1))), some (.int (nI (i + 1)))], [], M)) (by first | rw [nI_1] | simp only [nI_1]) ?_
                  refine q_Wp.gn 0 (c' := (104, [some (.ref 34), some (.int (nI S)), some (.int (nI c)), some (.int (q_b wl)), some (.int (nI cc)), some (.int (nI (o + 1))), some (.int (nI (i + 1)))], [], M)) rfl ?_
                  exact ih3 (i + 1) ((o + 1)) (by omega) (by rw [s_ct, ← ho]; simp [p_c, j5, j6]) (by omega)
        exact key3 (n + 1) 0 0 (by omega) rfl (by omega)
  have key : ∀ (kz : Nat) (i c : Nat) (wl : Bool), i ≤ n → c = s_ct i (fun q => S.testBit q) → wl = s_all i (p_1 fa sh S) → n - i < kz → q_Wp X (d + 2) 79 (7, [some (.ref 34), some (.int (nI S)), some (.int (nI c)), some (.int (q_b wl)), some (.int (nI i)), none, none], [], M) (fun r M' => r = some (.int (q_b (s_mf n fa sh (M.1 41) (M.1 42) (M.1 34 7) S))) ∧ M' = M) := by
    intro kz
    induction kz with
    | zero => intro i c wl hi hc hw hm; exact absurd hm (by omega)
    | succ kz ih =>
      intro i c wl hi hc hw hm
      refine q_Wp.gn 2 (c' := (13, [some (.ref 34), some (.int (nI S)), some (.int (nI c)), some (.int (q_b wl)), some (.int (nI i)), none, none], [.int (M.1 34 0), .int (nI i)], M)) rfl ?_
      refine q_Wp.cv (c' := (13, [some (.ref 34), some (.int (nI S)), some (.int (nI c)), some (.int (q_b wl)), some (.int (nI i)), none, none], [.int (nI n), .int (nI i)], M)) (by first | rw [hB.1] | simp only [hB.1]) ?_
      refine q_Wp.gd 0 ((nI n) ≤ (nI i)) (c1 := (89, [some (.ref 34), some (.int (nI S)), some (.int (nI c)), some (.int (q_b wl)), some (.int (nI i)), none, none], [], M)) (c2 := (16, [some (.ref 34), some (.int (nI S)), some (.int (nI c)), some (.int (q_b wl)), some (.int (nI i)), none, none], [], M)) rfl (fun g1 => ?_) (fun g1 => ?_)
      · -- t
        have g1 : n ≤ i := (nI_leI (a := n) (b := i) (by omega) (by omega)).mp g1
        refine q_Wp.gn 1 (c' := (92, [some (.ref 34), some (.int (nI S)), some (.int (nI c)), some (.int (q_b wl)), some (.int 0), none, none], [], M)) rfl ?_
        (have e : i = n := by omega)
        subst e
        exact key2 c hc 4 0 wl _ _ (by omega) (by rw [hw]; simp [s_all]) (by omega)
      · -- f
        have g1 : ¬ n ≤ i := fun z => g1 ((nI_leI (a := n) (b := i) (by omega) (by omega)).mpr z)
        obtain ⟨e0, e1, e2, e3, e4, -⟩ := hB.2 i (by omega)
        obtain ⟨o0, o1, o2, o3, o4, -⟩ := hO.2 i (by omega)
        refine q_Wp.gc 3 (mj := 77) (as := [.int (nI S), .int (nI i)]) (pc := 23) (ls := [some (.ref 34), some (.int (nI S)), some (.int (nI c)), some (.int (q_b wl)), some (.int (nI i)), none, none]) (st := [.int (nI c)]) (M := M) (r1 := some (.int (q_b (S.testBit i)))) (M1 := M) rfl (c_mhas X (d + 1) (S := S) (q := i) hS (by omega) M) ?_
        show q_Wp X _ 79 (23, [some (.ref 34), some (.int (nI S)), some (.int (nI c)), some (.int (q_b wl)), some (.int (nI i)), none, none], [.int (q_b (S.testBit i)), .int (nI c)], M) _
        refine q_Wp.ge0 0 (b := (S.testBit i)) (c1 := (30, [some (.ref 34), some (.int (nI S)), some (.int (nI c)), some (.int (q_b wl)), some (.int (nI i)), none, none], [.int (nI c)], M)) (c2 := (26, [some (.ref 34), some (.int (nI S)), some (.int (nI c)), some (.int (q_b wl)), some (.int (nI i)), none, none], [.int (nI c)], M)) rfl (fun g2 => ?_) (fun g2 => ?_)
        · -- ft
          refine q_Wp.gn 1 (c' := (32, [some (.ref 34), some (.int (nI S)), some (.int (nI c)), some (.int (q_b wl)), some (.int (nI i)), none, none], [.int ((nI c) + 0)], M)) rfl ?_
          refine q_Wp.cv (c' := (32, [some (.ref 34), some (.int (nI S)), some (.int (nI c)), some (.int (q_b wl)), some (.int (nI i)), none, none], [.int (nI (c + 0))], M)) (by first | rw [nI_add0] | simp only [nI_add0]) ?_
          refine q_Wp.ge0 2 (b := wl) (c1 := (81, [some (.ref 34), some (.int (nI S)), some (.int (nI (c + 0))), some (.int (q_b wl)), some (.int (nI i)), none, none], [], M)) (c2 := (37, [some (.ref 34), some (.int (nI S)), some (.int (nI (c + 0))), some (.int (q_b wl)), some (.int (nI i)), none, none], [], M)) rfl (fun g3 => ?_) (fun g3 => ?_)
          · -- ftt
            refine q_Wp.gn 2 (c' := (86, [some (.ref 34), some (.int (nI S)), some (.int (nI (c + 0))), some (.int 0), some (.int ((nI i) + 1)), none, none], [], M)) rfl ?_
            refine q_Wp.cv (c' := (86, [some (.ref 34), some (.int (nI S)), some (.int (nI (c + 0))), some (.int 0), some (.int (nI (i + 1))), none, none], [], M)) (by first | rw [nI_1] | simp only [nI_1]) ?_
            refine q_Wp.gn 0 (c' := (7, [some (.ref 34), some (.int (nI S)), some (.int (nI (c + 0))), some (.int 0), some (.int (nI (i + 1))), none, none], [], M)) rfl ?_
            exact ih (i + 1) ((c + 0)) false (by omega) (by rw [s_ct, ← hc]; simp [g2]) (by rw [s_all, ← hw]; simp [p_1, s_wn, g2, g3]) (by omega)
          · -- ftf
            refine q_Wp.gc 2 (mj := 77) (as := [.int (nI S), .int (nI i)]) (pc := 43) (ls := [some (.ref 34), some (.int (nI S)), some (.int (nI (c + 0))), some (.int (q_b wl)), some (.int (nI i)), none, none]) (st := []) (M := M) (r1 := some (.int (q_b (S.testBit i)))) (M1 := M) rfl (c_mhas X (d + 1) (S := S) (q := i) hS (by omega) M) ?_
            show q_Wp X _ 79 (43, [some (.ref 34), some (.int (nI S)), some (.int (nI (c + 0))), some (.int (q_b wl)), some (.int (nI i)), none, none], [.int (q_b (S.testBit i))], M) _
            refine q_Wp.ge0 0 (b := (S.testBit i)) (c1 := (66, [some (.ref 34), some (.int (nI S)), some (.int (nI (c + 0))), some (.int (q_b wl)), some (.int (nI i)), none, none], [], M)) (c2 := (46, [some (.ref 34), some (.int (nI S)), some (.int (nI (c + 0))), some (.int (q_b wl)), some (.int (nI i)), none, none], [], M)) rfl (fun _ => ?_) (fun z => absurd (g2.symm.trans z) (by decide))
            refine q_Wp.gn 2 (c' := (72, [some (.ref 34), some (.int (nI S)), some (.int (nI (c + 0))), some (.int (q_b wl)), some (.int (nI i)), none, none], [.int (nI i), .ref 35], M)) rfl ?_
            refine q_Wp.ild (i := i) rfl (rfl) rfl (by omega) (by decide) ?_
            show q_Wp X _ 79 (73, [some (.ref 34), some (.int (nI S)), some (.int (nI (c + 0))), some (.int (q_b wl)), some (.int (nI i)), none, none], [.int (M.1 35 i)], M) _
            refine q_Wp.cv (c' := (73, [some (.ref 34), some (.int (nI S)), some (.int (nI (c + 0))), some (.int (q_b wl)), some (.int (nI i)), none, none], [.int (nI (fa i 0))], M)) (by first | rw [e0] | simp only [e0]) ?_
            refine q_Wp.gd 1 ((nI (fa i 0)) = 3) (c1 := (81, [some (.ref 34), some (.int (nI S)), some (.int (nI (c + 0))), some (.int (q_b wl)), some (.int (nI i)), none, none], [], M)) (c2 := (77, [some (.ref 34), some (.int (nI S)), some (.int (nI (c + 0))), some (.int (q_b wl)), some (.int (nI i)), none, none], [], M)) rfl (fun g4 => ?_) (fun g4 => ?_)
            · -- ftft
              have g4 : (fa i 0) = 3 := (nI_eq (a := (fa i 0)) (b := 3) (by omega) (by omega)).mp g4
              refine q_Wp.gn 2 (c' := (86, [some (.ref 34), some (.int (nI S)), some (.int (nI (c + 0))), some (.int 0), some (.int ((nI i) + 1)), none, none], [], M)) rfl ?_
              refine q_Wp.cv (c' := (86, [some (.ref 34), some (.int (nI S)), some (.int (nI (c + 0))), some (.int 0), some (.int (nI (i + 1))), none, none], [], M)) (by first | rw [nI_1] | simp only [nI_1]) ?_
              refine q_Wp.gn 0 (c' := (7, [some (.ref 34), some (.int (nI S)), some (.int (nI (c + 0))), some (.int 0), some (.int (nI (i + 1))), none, none], [], M)) rfl ?_
              exact ih (i + 1) ((c + 0)) false (by omega) (by rw [s_ct, ← hc]; simp [g2]) (by rw [s_all, ← hw]; simp [p_1, s_wn, g2, g3, g4]) (by omega)
            · -- ftff
              have g4 : ¬ (fa i 0) = 3 := fun z => g4 ((nI_eq (a := (fa i 0)) (b := 3) (by omega) (by omega)).mpr z)
              refine q_Wp.gn 3 (c' := (86, [some (.ref 34), some (.int (nI S)), some (.int (nI (c + 0))), some (.int 1), some (.int ((nI i) + 1)), none, none], [], M)) rfl ?_
              refine q_Wp.cv (c' := (86, [some (.ref 34), some (.int (nI S)), some (.int (nI (c + 0))), some (.int 1), some (.int (nI (i + 1))), none, none], [], M)) (by first | rw [nI_1] | simp only [nI_1]) ?_
              refine q_Wp.gn 0 (c' := (7, [some (.ref 34), some (.int (nI S)), some (.int (nI (c + 0))), some (.int 1), some (.int (nI (i + 1))), none, none], [], M)) rfl ?_
              exact ih (i + 1) ((c + 0)) true (by omega) (by rw [s_ct, ← hc]; simp [g2]) (by rw [s_all, ← hw]; simp [p_1, s_wn, g2, g3, g4]) (by omega)
        · -- ff
          refine q_Wp.gn 2 (c' := (32, [some (.ref 34), some (.int (nI S)), some (.int (nI c)), some (.int (q_b wl)), some (.int (nI i)), none, none], [.int ((nI c) + 1)], M)) rfl ?_
          refine q_Wp.cv (c' := (32, [some (.ref 34), some (.int (nI S)), some (.int (nI c)), some (.int (q_b wl)), some (.int (nI i)), none, none], [.int (nI (c + 1))], M)) (by first | rw [nI_1] | simp only [nI_1]) ?_
          refine q_Wp.ge0 2 (b := wl) (c1 := (81, [some (.ref 34), some (.int (nI S)), some (.int (nI (c + 1))), some (.int (q_b wl)), some (.int (nI i)), none, none], [], M)) (c2 := (37, [some (.ref 34), some (.int (nI S)), some (.int (nI (c + 1))), some (.int (q_b wl)), some (.int (nI i)), none, none], [], M)) rfl (fun g5 => ?_) (fun g5 => ?_)
          · -- fft
            refine q_Wp.gn 2 (c' := (86, [some (.ref 34), some (.int (nI S)), some (.int (nI (c + 1))), some (.int 0), some (.int ((nI i) + 1)), none, none], [], M)) rfl ?_
            refine q_Wp.cv (c' := (86, [some (.ref 34), some (.int (nI S)), some (.int (nI (c + 1))), some (.int 0), some (.int (nI (i + 1))), none, none], [], M)) (by first | rw [nI_1] | simp only [nI_1]) ?_
            refine q_Wp.gn 0 (c' := (7, [some (.ref 34), some (.int (nI S)), some (.int (nI (c + 1))), some (.int 0), some (.int (nI (i + 1))), none, none], [], M)) rfl ?_
            exact ih (i + 1) ((c + 1)) false (by omega) (by rw [s_ct, ← hc]; simp [g2]) (by rw [s_all, ← hw]; simp [p_1, s_wn, g2, g5]) (by omega)
          · -- fff
            refine q_Wp.gc 2 (mj := 77) (as := [.int (nI S), .int (nI i)]) (pc := 43) (ls := [some (.ref 34), some (.int (nI S)), some (.int (nI (c + 1))), some (.int (q_b wl)), some (.int (nI i)), none, none]) (st := []) (M := M) (r1 := some (.int (q_b (S.testBit i)))) (M1 := M) rfl (c_mhas X (d + 1) (S := S) (q := i) hS (by omega) M) ?_
            show q_Wp X _ 79 (43, [some (.ref 34), some (.int (nI S)), some (.int (nI (c + 1))), some (.int (q_b wl)), some (.int (nI i)), none, none], [.int (q_b (S.testBit i))], M) _
            refine q_Wp.ge0 0 (b := (S.testBit i)) (c1 := (66, [some (.ref 34), some (.int (nI S)), some (.int (nI (c + 1))), some (.int (q_b wl)), some (.int (nI i)), none, none], [], M)) (c2 := (46, [some (.ref 34), some (.int (nI S)), some (.int (nI (c + 1))), some (.int (q_b wl)), some (.int (nI i)), none, none], [], M)) rfl (fun z => absurd (g2.symm.trans z) (by decide)) (fun _ => ?_)
            refine q_Wp.gn 2 (c' := (52, [some (.ref 34), some (.int (nI S)), some (.int (nI (c + 1))), some (.int (q_b wl)), some (.int (nI i)), none, none], [.int (nI i), .ref 39], M)) rfl ?_
            refine q_Wp.ild (i := i) rfl (rfl) rfl (by omega) (by decide) ?_
            show q_Wp X _ 79 (53, [some (.ref 34), some (.int (nI S)), some (.int (nI (c + 1))), some (.int (q_b wl)), some (.int (nI i)), none, none], [.int (M.1 39 i)], M) _
            refine q_Wp.cv (c' := (53, [some (.ref 34), some (.int (nI S)), some (.int (nI (c + 1))), some (.int (q_b wl)), some (.int (nI i)), none, none], [.int (sh i)], M)) (by first | rw [e4] | simp only [e4]) ?_
            refine q_Wp.gn 2 (c' := (59, [some (.ref 34), some (.int (nI S)), some (.int (nI (c + 1))), some (.int (q_b wl)), some (.int (nI i)), none, none], [.int (nI i), .ref 38, .int (sh i)], M)) rfl ?_
            refine q_Wp.ild (i := i) rfl (rfl) rfl (by omega) (by decide) ?_
            show q_Wp X _ 79 (60, [some (.ref 34), some (.int (nI S)), some (.int (nI (c + 1))), some (.int (q_b wl)), some (.int (nI i)), none, none], [.int (M.1 38 i), .int (sh i)], M) _
            refine q_Wp.cv (c' := (60, [some (.ref 34), some (.int (nI S)), some (.int (nI (c + 1))), some (.int (q_b wl)), some (.int (nI i)), none, none], [.int (nI (fa i 3)), .int (sh i)], M)) (by first | rw [e3] | simp only [e3]) ?_
            refine q_Wp.gd 0 ((nI (fa i 3)) ≤ (sh i)) (c1 := (81, [some (.ref 34), some (.int (nI S)), some (.int (nI (c + 1))), some (.int (q_b wl)), some (.int (nI i)), none, none], [], M)) (c2 := (63, [some (.ref 34), some (.int (nI S)), some (.int (nI (c + 1))), some (.int (q_b wl)), some (.int (nI i)), none, none], [], M)) rfl (fun g6 => ?_) (fun g6 => ?_)
            · -- ffft
              refine q_Wp.gn 2 (c' := (86, [some (.ref 34), some (.int (nI S)), some (.int (nI (c + 1))), some (.int 0), some (.int ((nI i) + 1)), none, none], [], M)) rfl ?_
              refine q_Wp.cv (c' := (86, [some (.ref 34), some (.int (nI S)), some (.int (nI (c + 1))), some (.int 0), some (.int (nI (i + 1))), none, none], [], M)) (by first | rw [nI_1] | simp only [nI_1]) ?_
              refine q_Wp.gn 0 (c' := (7, [some (.ref 34), some (.int (nI S)), some (.int (nI (c + 1))), some (.int 0), some (.int (nI (i + 1))), none, none], [], M)) rfl ?_
              exact ih (i + 1) ((c + 1)) false (by omega) (by rw [s_ct, ← hc]; simp [g2]) (by rw [s_all, ← hw]; simp [p_1, s_wn, g2, g5, g6]) (by omega)
            · -- ffff
              refine q_Wp.gn 4 (c' := (86, [some (.ref 34), some (.int (nI S)), some (.int (nI (c + 1))), some (.int 1), some (.int ((nI i) + 1)), none, none], [], M)) rfl ?_
              refine q_Wp.cv (c' := (86, [some (.ref 34), some (.int (nI S)), some (.int (nI (c + 1))), some (.int 1), some (.int (nI (i + 1))), none, none], [], M)) (by first | rw [nI_1] | simp only [nI_1]) ?_
              refine q_Wp.gn 0 (c' := (7, [some (.ref 34), some (.int (nI S)), some (.int (nI (c + 1))), some (.int 1), some (.int (nI (i + 1))), none, none], [], M)) rfl ?_
              exact ih (i + 1) ((c + 1)) true (by omega) (by rw [s_ct, ← hc]; simp [g2]) (by rw [s_all, ← hw]; simp [p_1, s_wn, g2, g5, g6]) (by omega)
  refine q_Wp.gn 5 (c' := (7, [some (.ref 34), some (.int (nI S)), some (.int 0), some (.int 1), some (.int 0), none, none], [], M)) rfl ?_
  exact key (n + 1) 0 0 true (by omega) rfl rfl (by omega)

