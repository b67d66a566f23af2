/-! Contracts: the next question, reach, the class (by program: wip/whole/c21.py) -/
def s_gt (T B : Nat → Nat) (q b : Nat) : Bool := decide (0 < s_cmp 100 (T q) (B q) (T b) (B b) 1)
/-- the best of the bits of K -/
def s_nx (K : Nat) (T B : Nat → Nat) : Nat → Option Nat
  | 0 => none
  | i + 1 => if K.testBit i = true then (match s_nx K T B i with
    | none => some i
    | some b => if s_gt T B i b = true then some i else some b) else s_nx K T B i
def s_ov : Option Nat → Int32
  | none => -9
  | some b => nI b
theorem s_ne9 {b : Nat} (h : b < 1000) : ¬ nI b = -9 := by
  intro z
  have h1 := congrArg Int32.toInt z
  rw [nI_toInt (by omega)] at h1
  have h2 : (-9 : Int32).toInt = -9 := by decide
  omega
theorem s_nx_lt {K : Nat} {T B : Nat → Nat} : ∀ {i b : Nat}, s_nx K T B i = some b → b < i
  | 0, b, h => by cases h
  | i + 1, b, h => by
    rw [s_nx] at h
    split at h
    · split at h
      · cases h; omega
      · split at h
        · cases h; omega
        · cases h
          rename_i h1 _
          have := s_nx_lt h1
          omega
    · have := s_nx_lt h
      omega
def x_gain (n t : Nat) (T B : Nat → Nat) (M : q_M) : Prop := ∀ q, q < n → s_top (M.1 (27 + t)) (M.1 (3 + q)) = lN (T q) ∧ T q < 9223372036854775808 ∧ s_bot (M.1 (27 + t)) (M.1 (3 + q)) = lN (B q) ∧ B q < 9223372036854775808 ∧ 0 < B q
set_option maxRecDepth 10000 in
theorem c_mostTelling (X : q_X) (d : Nat) {n t K : Nat} {T B : Nat → Nat} (hn : n ≤ 10) (ht : t ≤ 6) (M : q_M) (hsz : M.1 1 0 = nI n) (hT : M.1 23 2 = nI t) (hG : x_gain n t T B M) : q_Ev X (d + 5) 51 [.ref 0, .int (nI K)] M (some (.int (s_ov (s_nx K T B n)))) (M) := by
  refine q_Ev.ofW rfl ?_
  show q_Wp X _ 51 (0, [some (.ref 0), some (.int (nI K)), none, none], [], M) _
  have key : ∀ (kz : Nat) (i : Nat) (b : Option Nat), i ≤ n → b = s_nx K T B i → n - i < kz → q_Wp X (d + 4) 51 (5, [some (.ref 0), some (.int (nI K)), some (.int (s_ov b)), some (.int (nI i))], [], M) (fun r M' => r = some (.int (s_ov (s_nx K T B n))) ∧ M' = M) := by
    intro kz
    induction kz with
    | zero => intro i b hi hb hm; exact absurd hm (by omega)
    | succ kz ih =>
      intro i b hi hb hm
      cases b with
      | none =>
        show q_Wp X _ 51 (5, [some (.ref 0), some (.int (nI K)), some (.int (-9)), some (.int (nI i))], [], M) _
        refine q_Wp.gn 3 (c' := (13, [some (.ref 0), some (.int (nI K)), some (.int (-9)), some (.int (nI i))], [.int (M.1 1 0), .int (nI i)], M)) rfl ?_
        refine q_Wp.cv (c' := (13, [some (.ref 0), some (.int (nI K)), some (.int (-9)), some (.int (nI i))], [.int (nI n), .int (nI i)], M)) (by first | rw [hsz] | simp only [hsz]) ?_
        refine q_Wp.gd 0 ((nI n) ≤ (nI i)) (c1 := (50, [some (.ref 0), some (.int (nI K)), some (.int (-9)), some (.int (nI i))], [], M)) (c2 := (16, [some (.ref 0), some (.int (nI K)), some (.int (-9)), some (.int (nI i))], [], M)) rfl (fun g1 => ?_) (fun g1 => ?_)
        · -- t
          have g1 : n ≤ i := (nI_leI (a := n) (b := i) (by omega) (by omega)).mp g1
          refine q_Wp.gn 0 (c' := (51, [some (.ref 0), some (.int (nI K)), some (.int (-9)), some (.int (nI i))], [.int (-9)], M)) rfl ?_
          exact q_Wp.rt rfl rfl ⟨by (have e : i = n := by omega); subst e; rw [← hb]; rfl, by rfl⟩
        · -- f
          have g1 : ¬ n ≤ i := fun z => g1 ((nI_leI (a := n) (b := i) (by omega) (by omega)).mpr z)
          refine q_Wp.gc 2 (mj := 58) (as := [.int (nI K), .int (nI i)]) (pc := 21) (ls := [some (.ref 0), some (.int (nI K)), some (.int (-9)), some (.int (nI i))]) (st := []) (M := M) (r1 := some (.int (q_b (s_isIn (nI K) (nI i))))) (M1 := M) rfl (c_isIn X (d + 3) (nI K) (nI i) M) ?_
          show q_Wp X _ 51 (21, [some (.ref 0), some (.int (nI K)), some (.int (-9)), some (.int (nI i))], [.int (q_b (s_isIn (nI K) (nI i)))], M) _
          refine q_Wp.cv (c' := (21, [some (.ref 0), some (.int (nI K)), some (.int (-9)), some (.int (nI i))], [.int (q_b (K.testBit i))], M)) (by first | rw [s_isIn_b (K := K) (q := i) (by omega)] | simp only [s_isIn_b (K := K) (q := i) (by omega)]) ?_
          refine q_Wp.gn0 0 (b := (K.testBit i)) (c1 := (27, [some (.ref 0), some (.int (nI K)), some (.int (-9)), some (.int (nI i))], [], M)) (c2 := (24, [some (.ref 0), some (.int (nI K)), some (.int (-9)), some (.int (nI i))], [], M)) rfl (fun g2 => ?_) (fun g2 => ?_)
          · -- ft
            refine q_Wp.gn 5 (c' := (47, [some (.ref 0), some (.int (nI K)), some (.int (nI i)), some (.int ((nI i) + 1))], [], M)) rfl ?_
            refine q_Wp.cv (c' := (47, [some (.ref 0), some (.int (nI K)), some (.int (nI i)), some (.int (nI (i + 1)))], [], M)) (by first | rw [nI_1] | simp only [nI_1]) ?_
            refine q_Wp.gn 0 (c' := (5, [some (.ref 0), some (.int (nI K)), some (.int (nI i)), some (.int (nI (i + 1)))], [], M)) rfl ?_
            exact ih (i + 1) (some i) (by omega) (by rw [s_nx, if_pos g2, ← hb]) (by omega)
          · -- ff
            refine q_Wp.gn 1 (c' := (47, [some (.ref 0), some (.int (nI K)), some (.int (-9)), some (.int ((nI i) + 1))], [], M)) rfl ?_
            refine q_Wp.cv (c' := (47, [some (.ref 0), some (.int (nI K)), some (.int (-9)), some (.int (nI (i + 1)))], [], M)) (by first | rw [nI_1] | simp only [nI_1]) ?_
            refine q_Wp.gn 0 (c' := (5, [some (.ref 0), some (.int (nI K)), some (.int (-9)), some (.int (nI (i + 1)))], [], M)) rfl ?_
            exact ih (i + 1) none (by omega) (by rw [s_nx, if_neg (by rw [g2]; decide)]; exact hb) (by omega)
      | some b =>
        have hbi : b < i := s_nx_lt hb.symm
        show q_Wp X _ 51 (5, [some (.ref 0), some (.int (nI K)), some (.int (nI b)), some (.int (nI i))], [], M) _
        refine q_Wp.gn 3 (c' := (13, [some (.ref 0), some (.int (nI K)), some (.int (nI b)), some (.int (nI i))], [.int (M.1 1 0), .int (nI i)], M)) rfl ?_
        refine q_Wp.cv (c' := (13, [some (.ref 0), some (.int (nI K)), some (.int (nI b)), some (.int (nI i))], [.int (nI n), .int (nI i)], M)) (by first | rw [hsz] | simp only [hsz]) ?_
        refine q_Wp.gd 0 ((nI n) ≤ (nI i)) (c1 := (50, [some (.ref 0), some (.int (nI K)), some (.int (nI b)), some (.int (nI i))], [], M)) (c2 := (16, [some (.ref 0), some (.int (nI K)), some (.int (nI b)), some (.int (nI i))], [], M)) rfl (fun g1 => ?_) (fun g1 => ?_)
        · -- t
          have g1 : n ≤ i := (nI_leI (a := n) (b := i) (by omega) (by omega)).mp g1
          refine q_Wp.gn 0 (c' := (51, [some (.ref 0), some (.int (nI K)), some (.int (nI b)), some (.int (nI i))], [.int (nI b)], M)) rfl ?_
          exact q_Wp.rt rfl rfl ⟨by (have e : i = n := by omega); subst e; rw [← hb]; rfl, by rfl⟩
        · -- f
          have g1 : ¬ n ≤ i := fun z => g1 ((nI_leI (a := n) (b := i) (by omega) (by omega)).mpr z)
          refine q_Wp.gc 2 (mj := 58) (as := [.int (nI K), .int (nI i)]) (pc := 21) (ls := [some (.ref 0), some (.int (nI K)), some (.int (nI b)), some (.int (nI i))]) (st := []) (M := M) (r1 := some (.int (q_b (s_isIn (nI K) (nI i))))) (M1 := M) rfl (c_isIn X (d + 3) (nI K) (nI i) M) ?_
          show q_Wp X _ 51 (21, [some (.ref 0), some (.int (nI K)), some (.int (nI b)), some (.int (nI i))], [.int (q_b (s_isIn (nI K) (nI i)))], M) _
          refine q_Wp.cv (c' := (21, [some (.ref 0), some (.int (nI K)), some (.int (nI b)), some (.int (nI i))], [.int (q_b (K.testBit i))], M)) (by first | rw [s_isIn_b (K := K) (q := i) (by omega)] | simp only [s_isIn_b (K := K) (q := i) (by omega)]) ?_
          refine q_Wp.gn0 0 (b := (K.testBit i)) (c1 := (27, [some (.ref 0), some (.int (nI K)), some (.int (nI b)), some (.int (nI i))], [], M)) (c2 := (24, [some (.ref 0), some (.int (nI K)), some (.int (nI b)), some (.int (nI i))], [], M)) rfl (fun g2 => ?_) (fun g2 => ?_)
          · -- ft
            refine q_Wp.gd 2 ((nI b) = (-9)) (c1 := (42, [some (.ref 0), some (.int (nI K)), some (.int (nI b)), some (.int (nI i))], [], M)) (c2 := (33, [some (.ref 0), some (.int (nI K)), some (.int (nI b)), some (.int (nI i))], [], M)) rfl (fun g3 => ?_) (fun g3 => ?_)
            · -- ftt
              exact absurd g3 (s_ne9 (by omega))
            · -- ftf
              refine q_Wp.gc 3 (mj := 52) (as := [.ref 0, .int (nI i), .int (nI b)]) (pc := 39) (ls := [some (.ref 0), some (.int (nI K)), some (.int (nI b)), some (.int (nI i))]) (st := []) (M := M) (r1 := some (.int (s_cmp 100 (T i) (B i) (T b) (B b) 1))) (M1 := M) rfl (c_compareGains X d (n := n) (k := i) (k2 := b) (t := t) ht (hG _ (show i < n by omega)).2.1 (hG _ (show i < n by omega)).2.2.2.1 (hG _ (show b < n by omega)).2.1 (hG _ (show b < n by omega)).2.2.2.1 (hG _ (show i < n by omega)).2.2.2.2 (hG _ (show b < n by omega)).2.2.2.2 M hsz hn (show i < n by omega) (show b < n by omega) hT (hG _ (show i < n by omega)).1 (hG _ (show i < n by omega)).2.2.1 (hG _ (show b < n by omega)).1 (hG _ (show b < n by omega)).2.2.1) ?_
              show q_Wp X _ 51 (39, [some (.ref 0), some (.int (nI K)), some (.int (nI b)), some (.int (nI i))], [.int (s_cmp 100 (T i) (B i) (T b) (B b) 1)], M) _
              refine q_Wp.gd 0 ((s_cmp 100 (T i) (B i) (T b) (B b) 1) ≤ 0) (c1 := (44, [some (.ref 0), some (.int (nI K)), some (.int (nI b)), some (.int (nI i))], [], M)) (c2 := (42, [some (.ref 0), some (.int (nI K)), some (.int (nI b)), some (.int (nI i))], [], M)) rfl (fun g4 => ?_) (fun g4 => ?_)
              · -- ftft
                refine q_Wp.gn 0 (c' := (47, [some (.ref 0), some (.int (nI K)), some (.int (nI b)), some (.int ((nI i) + 1))], [], M)) rfl ?_
                refine q_Wp.cv (c' := (47, [some (.ref 0), some (.int (nI K)), some (.int (nI b)), some (.int (nI (i + 1)))], [], M)) (by first | rw [nI_1] | simp only [nI_1]) ?_
                refine q_Wp.gn 0 (c' := (5, [some (.ref 0), some (.int (nI K)), some (.int (nI b)), some (.int (nI (i + 1)))], [], M)) rfl ?_
                have e : s_gt T B i b = false := decide_eq_false (Int32.not_lt.mpr g4)
                exact ih (i + 1) (some b) (by omega) (by rw [s_nx, if_pos g2, ← hb]; simp [e]) (by omega)
              · -- ftff
                refine q_Wp.gn 2 (c' := (47, [some (.ref 0), some (.int (nI K)), some (.int (nI i)), some (.int ((nI i) + 1))], [], M)) rfl ?_
                refine q_Wp.cv (c' := (47, [some (.ref 0), some (.int (nI K)), some (.int (nI i)), some (.int (nI (i + 1)))], [], M)) (by first | rw [nI_1] | simp only [nI_1]) ?_
                refine q_Wp.gn 0 (c' := (5, [some (.ref 0), some (.int (nI K)), some (.int (nI i)), some (.int (nI (i + 1)))], [], M)) rfl ?_
                have e : s_gt T B i b = true := decide_eq_true (Int32.not_le.mp g4)
                exact ih (i + 1) (some i) (by omega) (by rw [s_nx, if_pos g2, ← hb]; simp [e]) (by omega)
          · -- ff
            refine q_Wp.gn 1 (c' := (47, [some (.ref 0), some (.int (nI K)), some (.int (nI b)), some (.int ((nI i) + 1))], [], M)) rfl ?_
            refine q_Wp.cv (c' := (47, [some (.ref 0), some (.int (nI K)), some (.int (nI b)), some (.int (nI (i + 1)))], [], M)) (by first | rw [nI_1] | simp only [nI_1]) ?_
            refine q_Wp.gn 0 (c' := (5, [some (.ref 0), some (.int (nI K)), some (.int (nI b)), some (.int (nI (i + 1)))], [], M)) rfl ?_
            exact ih (i + 1) (some b) (by omega) (by rw [s_nx, if_neg (by rw [g2]; decide)]; exact hb) (by omega)
  refine q_Wp.gn 3 (c' := (5, [some (.ref 0), some (.int (nI K)), some (.int (-9)), some (.int 0)], [], M)) rfl ?_
  exact key (n + 1) 0 none (by omega) rfl (by omega)

def n_fac (fa : Nat → Nat → Nat) (q : Nat) (rg : Bool) (s : Nat) : Nat := if fa q 0 = 4 then 1 else if rg = true then fa q (5 + s) else 5 - fa q (5 + s)
def n_mul (u : Nat → Nat) (fa : Nat → Nat → Nat) (q : Nat) (rg : Bool) : Nat → Nat := fun s => u s * n_fac fa q rg s
theorem s_fac_N {n : Nat} {fa : Nat → Nat → Nat} {sh : Nat → Int32} {M : q_M} (hO : ok_bank n fa) (hB : x_bank n fa sh M) {q s : Nat} (hq : q < n) (hs : s < 6) (rg : Bool) : s_fac (M.1 (3 + q)) s (q_b rg) = nI (n_fac fa q rg s) := by
  have h1 := (hB.2 q hq).1
  have h2 := hO.2 q hq
  have h3 := h2.2.2.2.2.2 s hs
  unfold s_fac n_fac
  rw [h1 0 (by decide) (by decide), h1 (5 + s) (by omega) (by omega)]
  by_cases e : fa q 0 = 4
  · rw [if_pos e, e]; rfl
  · rw [if_neg e, if_neg (show ¬ nI (fa q 0) = 4 from fun z => e ((nI_eq (a := fa q 0) (b := 4) (by omega) (by decide)).mp z))]
    cases rg with
    | true => rw [if_neg (show ¬ q_b true = 0 by decide)]; rfl
    | false => rw [if_pos (show q_b false = 0 from rfl)]; exact pk_sub (a := 5) (b := fa q (5 + s)) (by omega)
theorem s_bst_c {f g : Nat → Int32} : ∀ {i : Nat}, i ≤ 6 → (∀ s, s < 6 → f s = g s) → s_bst f i = s_bst g i
  | 0, _, _ => rfl
  | i + 1, hi, h => by
    have e := s_bst_c (i := i) (by omega) h
    have e2 : s_bst g i < 6 := by
      cases i with
      | zero => show 0 < 6; decide
      | succ i => have := s_bst_lt g i; omega
    rw [s_bst, s_bst, e, h i (by omega), h _ e2]
theorem s_sureX_c {f g : Nat → Int32} {a b : Int32} (h : ∀ s, s < 6 → f s = g s) : s_sureX f a b = s_sureX g a b := by
  have e := s_bst_c (i := 6) (by decide) h
  have e2 : s_bst g 6 < 6 := s_bst_lt g 5
  unfold s_sureX s_sum
  rw [e, h _ e2, h 0 (by decide), h 1 (by decide), h 2 (by decide), h 3 (by decide), h 4 (by decide), h 5 (by decide)]
def s_sureN (u : Nat → Nat) (a b : Int32) : Bool := s_sureX (fun s => nI (u s)) a b
/-- found for sure, k more -/
def s_rch (n : Nat) (fa : Nat → Nat → Nat) (ft : Nat → Bool) (a b : Int32) : Nat → Nat → Nat → (Nat → Nat) → Bool
  | 0, _, _, u => s_sureN u a b
  | k + 1, row, A, u => s_sureN u a b || (decide (row < 6) && s_any n (fun q => (s_xm n fa ft A).testBit q && (s_rch n fa ft a b k (row + 1) (A ||| 2 ^ q) (n_mul u fa q true) && s_rch n fa ft a b k (row + 1) (A ||| 2 ^ q) (n_mul u fa q false))))
def s_rq (n : Nat) (fa : Nat → Nat → Nat) (ft : Nat → Bool) (a b : Int32) (k row A : Nat) (u : Nat → Nat) (q : Nat) : Bool := (s_xm n fa ft A).testBit q && (s_rch n fa ft a b k (row + 1) (A ||| 2 ^ q) (n_mul u fa q true) && s_rch n fa ft a b k (row + 1) (A ||| 2 ^ q) (n_mul u fa q false))
set_option maxRecDepth 10000 in
theorem c_canBeFound (X : q_X) (d : Nat) {n : Nat} {fa : Nat → Nat → Nat} {sh : Nat → Int32} {wn ft : Nat → Bool} {a b : Int32} (hO : ok_bank n fa) : ∀ (k : Nat), k ≤ 3 → ∀ (row A : Nat) (u : Nat → Nat) (M : q_M), row ≤ 6 → A < 2 ^ n → x_bank n fa sh M → x_set n fa wn ft M → (∀ s, s < 6 → M.1 (27 + row) s = nI (u s)) → M.1 13 1 = a → M.1 13 2 = b → q_Ep X (d + 2 * k + 4) 53 [.ref 0, .int (nI A), .int (nI row), .int (nI k)] M (fun r M' => r = some (.int (q_b (s_rch n fa ft a b k row A u))) ∧ M'.2 = M.2 ∧ ∀ r, (r ≤ 27 + row ∨ 33 < r) → M'.1 r = M.1 r) := by
  have hn := hO.1
  intro k
  induction k with
  | zero =>
    intro _ row A u M hr6 hA hB hS hU h11 h12
    have hsu : s_sureX (M.1 (27 + row)) (M.1 13 1) (M.1 13 2) = s_sureN u a b := by rw [h11, h12]; exact s_sureX_c hU
    refine q_Ep.ofW rfl ?_
    show q_Wp X (d + 3) 53 (0, [some (.ref 0), some (.int (nI A)), some (.int (nI row)), some (.int 0), none, none], [], M) _
    refine q_Wp.gc 5 (mj := 24) (as := [.ref 23, .int (nI row)]) (pc := 12) (ls := [some (.ref 0), some (.int (nI A)), some (.int (nI row)), some (.int 0), none, none]) (st := [.ref 13]) (M := M) (r1 := some (.ref (27 + row))) (M1 := M) rfl (c_weightsBehind X (d + 1) (by omega) M) ?_
    show q_Wp X _ 53 (12, [some (.ref 0), some (.int (nI A)), some (.int (nI row)), some (.int 0), none, none], [.ref (27 + row), .ref 13], M) _
    refine q_Wp.gc 0 (mj := 21) (as := [.ref 13, .ref (27 + row)]) (pc := 15) (ls := [some (.ref 0), some (.int (nI A)), some (.int (nI row)), some (.int 0), none, none]) (st := []) (M := M) (r1 := some (.int (q_b (s_sureX (M.1 (27 + row)) (M.1 13 1) (M.1 13 2))))) (M1 := M) rfl (c_areSure X (d + 1) (q_kd_rows (q := row) (by omega)) M) ?_
    show q_Wp X _ 53 (15, [some (.ref 0), some (.int (nI A)), some (.int (nI row)), some (.int 0), none, none], [.int (q_b (s_sureX (M.1 (27 + row)) (M.1 13 1) (M.1 13 2)))], M) _
    refine q_Wp.cv (c' := (15, [some (.ref 0), some (.int (nI A)), some (.int (nI row)), some (.int 0), none, none], [.int (q_b (s_sureN u a b))], M)) (by first | rw [hsu] | simp only [hsu]) ?_
    refine q_Wp.ge0 0 (b := (s_sureN u a b)) (c1 := (20, [some (.ref 0), some (.int (nI A)), some (.int (nI row)), some (.int 0), none, none], [], M)) (c2 := (18, [some (.ref 0), some (.int (nI A)), some (.int (nI row)), some (.int 0), none, none], [], M)) rfl (fun g1 => ?_) (fun g1 => ?_)
    · -- t
      refine q_Wp.gn 2 (c' := (31, [some (.ref 0), some (.int (nI A)), some (.int (nI row)), some (.int 0), none, none], [.int 0], M)) rfl ?_
      exact q_Wp.rt rfl rfl ⟨by rw [s_rch, g1]; rfl, rfl, fun _ _ => rfl⟩
    · -- f
      refine q_Wp.gn 0 (c' := (19, [some (.ref 0), some (.int (nI A)), some (.int (nI row)), some (.int 0), none, none], [.int 1], M)) rfl ?_
      exact q_Wp.rt rfl rfl ⟨by rw [s_rch, g1]; rfl, rfl, fun _ _ => rfl⟩
  | succ k ih0 =>
    intro hk3
    have ih := ih0 (by omega)
    have hF : ∀ (q row A : Nat) (u : Nat → Nat) (M : q_M), q < n → row < 6 → A < 2 ^ n → x_bank n fa sh M → x_set n fa wn ft M → (∀ s, s < 6 → M.1 (27 + row) s = nI (u s)) → M.1 13 1 = a → M.1 13 2 = b → q_Ep X (d + 2 * k + 5) 54 [.ref 0, .int (nI q), .int (nI A), .int (nI row), .int (nI (k + 1))] M (fun r M' => r = some (.int (q_b (s_rch n fa ft a b k (row + 1) (A ||| 2 ^ q) (n_mul u fa q true) && s_rch n fa ft a b k (row + 1) (A ||| 2 ^ q) (n_mul u fa q false)))) ∧ M'.2 = M.2 ∧ ∀ r, (r ≤ 27 + row ∨ 33 < r) → M'.1 r = M.1 r) := by
      intro q row A u M hq hr6 hA hB hS hU h11 h12
      refine q_Ep.ofW rfl ?_
      show q_Wp X (d + 2 * k + 4) 54 (0, [some (.ref 0), some (.int (nI q)), some (.int (nI A)), some (.int (nI row)), some (.int (nI (k + 1))), none], [], M) _
      refine q_Wp.gn 3 (c' := (4, [some (.ref 0), some (.int (nI q)), some (.int (nI A)), some (.int (nI row)), some (.int (nI (k + 1))), none], [.int (1 <<< ((nI q) &&& 31)), .int (nI A)], M)) rfl ?_
      refine q_Wp.cv (c' := (4, [some (.ref 0), some (.int (nI q)), some (.int (nI A)), some (.int (nI row)), some (.int (nI (k + 1))), none], [.int (nI (2 ^ q)), .int (nI A)], M)) (by first | rw [s_1shl q (by omega)] | simp only [s_1shl q (by omega)]) ?_
      refine q_Wp.gn 0 (c' := (5, [some (.ref 0), some (.int (nI q)), some (.int (nI A)), some (.int (nI row)), some (.int (nI (k + 1))), none], [.int ((nI A) ||| (nI (2 ^ q)))], M)) rfl ?_
      refine q_Wp.cv (c' := (5, [some (.ref 0), some (.int (nI q)), some (.int (nI A)), some (.int (nI row)), some (.int (nI (k + 1))), none], [.int (nI (A ||| 2 ^ q))], M)) (by first | rw [s_or] | simp only [s_or]) ?_
      refine q_Wp.gp 8 (mj := 25) (as := [.ref 23, .ref 1, .int (nI row), .int (nI q), .int 1]) (pc := 21) (ls := [some (.ref 0), some (.int (nI q)), some (.int (nI A)), some (.int (nI row)), some (.int (nI (k + 1))), some (.int (nI (A ||| 2 ^ q)))]) (st := []) (M := M) rfl (c_weigh X ((d + 2 * k) + 1) (n := n) (k := q) (j := row) (by omega) 1 M hB.1 hq hn) (fun r1 M2 hp3 => ?_)
      obtain ⟨rfl, hA3, hB3, hD3⟩ := hp3
      have hb3 : x_bank n fa sh M2 := hB.keep hn (fun r hr => hB3 r (by omega))
      have hs3 : x_set n fa wn ft M2 := hS.keep (fun r h1 h2 => hB3 r (by omega))
      have hu3 : ∀ s, s < 6 → M2.1 (27 + (row + 1)) s = nI (n_mul u fa q true s) := fun s hs => by rw [hD3 s hs, hU s hs]; exact (congrArg _ (s_fac_N hO hB hq hs true)).trans (pk_mul _ _)
      show q_Wp X _ 54 (21, [some (.ref 0), some (.int (nI q)), some (.int (nI A)), some (.int (nI row)), some (.int (nI (k + 1))), some (.int (nI (A ||| 2 ^ q)))], [], M2) _
      refine q_Wp.gn 4 (c' := (27, [some (.ref 0), some (.int (nI q)), some (.int (nI A)), some (.int (nI row)), some (.int (nI (k + 1))), some (.int (nI (A ||| 2 ^ q)))], [.int ((nI row) + 1), .int (nI (A ||| 2 ^ q)), .ref 0], M2)) rfl ?_
      refine q_Wp.cv (c' := (27, [some (.ref 0), some (.int (nI q)), some (.int (nI A)), some (.int (nI row)), some (.int (nI (k + 1))), some (.int (nI (A ||| 2 ^ q)))], [.int (nI (row + 1)), .int (nI (A ||| 2 ^ q)), .ref 0], M2)) (by first | rw [nI_1] | simp only [nI_1]) ?_
      refine q_Wp.gn 2 (c' := (31, [some (.ref 0), some (.int (nI q)), some (.int (nI A)), some (.int (nI row)), some (.int (nI (k + 1))), some (.int (nI (A ||| 2 ^ q)))], [.int ((nI (k + 1)) - 1), .int (nI (row + 1)), .int (nI (A ||| 2 ^ q)), .ref 0], M2)) rfl ?_
      refine q_Wp.cv (c' := (31, [some (.ref 0), some (.int (nI q)), some (.int (nI A)), some (.int (nI row)), some (.int (nI (k + 1))), some (.int (nI (A ||| 2 ^ q)))], [.int (nI k), .int (nI (row + 1)), .int (nI (A ||| 2 ^ q)), .ref 0], M2)) (by first | rw [nI_pred k] | simp only [nI_pred k]) ?_
      refine q_Wp.gp 0 (mj := 53) (as := [.ref 0, .int (nI (A ||| 2 ^ q)), .int (nI (row + 1)), .int (nI k)]) (pc := 34) (ls := [some (.ref 0), some (.int (nI q)), some (.int (nI A)), some (.int (nI row)), some (.int (nI (k + 1))), some (.int (nI (A ||| 2 ^ q)))]) (st := []) (M := M2) rfl (ih (row + 1) (A ||| 2 ^ q) (n_mul u fa q true) M2 (by omega) (s_orlt hA hq) hb3 hs3 hu3 (by rw [hB3 13 (by omega)]; exact h11) (by rw [hB3 13 (by omega)]; exact h12)) (fun r4 M5 hp6 => ?_)
      obtain ⟨rfl, hE6, hF6⟩ := hp6
      have hfc : ∀ r, (r ≤ 27 + row ∨ 33 < r) → M5.1 r = M.1 r := fun r hr => (hF6 r (by omega)).trans (hB3 r (by omega))
      have hbc : x_bank n fa sh M5 := hB.keep hn (fun r hr => hfc r (by omega))
      have hsc : x_set n fa wn ft M5 := hS.keep (fun r h1 h2 => hfc r (by omega))
      have hmc : M5.2 = M.2 := hE6.trans hA3
      show q_Wp X _ 54 (34, [some (.ref 0), some (.int (nI q)), some (.int (nI A)), some (.int (nI row)), some (.int (nI (k + 1))), some (.int (nI (A ||| 2 ^ q)))], [.int (q_b (s_rch n fa ft a b k (row + 1) (A ||| 2 ^ q) (n_mul u fa q true)))], M5) _
      refine q_Wp.gn0 0 (b := (s_rch n fa ft a b k (row + 1) (A ||| 2 ^ q) (n_mul u fa q true))) (c1 := (39, [some (.ref 0), some (.int (nI q)), some (.int (nI A)), some (.int (nI row)), some (.int (nI (k + 1))), some (.int (nI (A ||| 2 ^ q)))], [], M5)) (c2 := (37, [some (.ref 0), some (.int (nI q)), some (.int (nI A)), some (.int (nI row)), some (.int (nI (k + 1))), some (.int (nI (A ||| 2 ^ q)))], [], M5)) rfl (fun g7 => ?_) (fun g7 => ?_)
      · -- t
        refine q_Wp.gp 7 (mj := 25) (as := [.ref 23, .ref 1, .int (nI row), .int (nI q), .int 0]) (pc := 53) (ls := [some (.ref 0), some (.int (nI q)), some (.int (nI A)), some (.int (nI row)), some (.int (nI (k + 1))), some (.int (nI (A ||| 2 ^ q)))]) (st := []) (M := M5) rfl (c_weigh X ((d + 2 * k) + 1) (n := n) (k := q) (j := row) (by omega) 0 M5 hbc.1 hq hn) (fun r8 M9 hp10 => ?_)
        obtain ⟨rfl, hA10, hB10, hD10⟩ := hp10
        have hb10 : x_bank n fa sh M9 := hbc.keep hn (fun r hr => hB10 r (by omega))
        have hs10 : x_set n fa wn ft M9 := hsc.keep (fun r h1 h2 => hB10 r (by omega))
        have hu10 : ∀ s, s < 6 → M9.1 (27 + (row + 1)) s = nI (n_mul u fa q false s) := fun s hs => by rw [hD10 s hs, hfc (27 + row) (by omega), hU s hs]; exact (congrArg _ (s_fac_N hO hbc hq hs false)).trans (pk_mul _ _)
        show q_Wp X _ 54 (53, [some (.ref 0), some (.int (nI q)), some (.int (nI A)), some (.int (nI row)), some (.int (nI (k + 1))), some (.int (nI (A ||| 2 ^ q)))], [], M9) _
        refine q_Wp.gn 4 (c' := (59, [some (.ref 0), some (.int (nI q)), some (.int (nI A)), some (.int (nI row)), some (.int (nI (k + 1))), some (.int (nI (A ||| 2 ^ q)))], [.int ((nI row) + 1), .int (nI (A ||| 2 ^ q)), .ref 0], M9)) rfl ?_
        refine q_Wp.cv (c' := (59, [some (.ref 0), some (.int (nI q)), some (.int (nI A)), some (.int (nI row)), some (.int (nI (k + 1))), some (.int (nI (A ||| 2 ^ q)))], [.int (nI (row + 1)), .int (nI (A ||| 2 ^ q)), .ref 0], M9)) (by first | rw [nI_1] | simp only [nI_1]) ?_
        refine q_Wp.gn 2 (c' := (63, [some (.ref 0), some (.int (nI q)), some (.int (nI A)), some (.int (nI row)), some (.int (nI (k + 1))), some (.int (nI (A ||| 2 ^ q)))], [.int ((nI (k + 1)) - 1), .int (nI (row + 1)), .int (nI (A ||| 2 ^ q)), .ref 0], M9)) rfl ?_
        refine q_Wp.cv (c' := (63, [some (.ref 0), some (.int (nI q)), some (.int (nI A)), some (.int (nI row)), some (.int (nI (k + 1))), some (.int (nI (A ||| 2 ^ q)))], [.int (nI k), .int (nI (row + 1)), .int (nI (A ||| 2 ^ q)), .ref 0], M9)) (by first | rw [nI_pred k] | simp only [nI_pred k]) ?_
        refine q_Wp.gp 0 (mj := 53) (as := [.ref 0, .int (nI (A ||| 2 ^ q)), .int (nI (row + 1)), .int (nI k)]) (pc := 66) (ls := [some (.ref 0), some (.int (nI q)), some (.int (nI A)), some (.int (nI row)), some (.int (nI (k + 1))), some (.int (nI (A ||| 2 ^ q)))]) (st := []) (M := M9) rfl (ih (row + 1) (A ||| 2 ^ q) (n_mul u fa q false) M9 (by omega) (s_orlt hA hq) hb10 hs10 hu10 (by rw [hB10 13 (by omega), hfc 13 (by omega)]; exact h11) (by rw [hB10 13 (by omega), hfc 13 (by omega)]; exact h12)) (fun r11 M12 hp13 => ?_)
        obtain ⟨rfl, hE13, hF13⟩ := hp13
        have hfd : ∀ r, (r ≤ 27 + row ∨ 33 < r) → M12.1 r = M.1 r := fun r hr => ((hF13 r (by omega)).trans (hB10 r (by omega))).trans (hfc r hr)
        have hmd : M12.2 = M.2 := (hE13.trans hA10).trans hmc
        show q_Wp X _ 54 (66, [some (.ref 0), some (.int (nI q)), some (.int (nI A)), some (.int (nI row)), some (.int (nI (k + 1))), some (.int (nI (A ||| 2 ^ q)))], [.int (q_b (s_rch n fa ft a b k (row + 1) (A ||| 2 ^ q) (n_mul u fa q false)))], M12) _
        refine q_Wp.zr rfl rfl (q_b01 _) ?_
        rw [g7, Bool.true_and]
        exact ⟨rfl, hmd, hfd⟩
      · -- f
        refine q_Wp.gn 0 (c' := (38, [some (.ref 0), some (.int (nI q)), some (.int (nI A)), some (.int (nI row)), some (.int (nI (k + 1))), some (.int (nI (A ||| 2 ^ q)))], [.int 0], M5)) rfl ?_
        refine q_Wp.rt rfl rfl ?_
        rw [g7]
        exact ⟨rfl, hmc, hfc⟩
    intro row A u M hr6 hA hB hS hU h11 h12
    have hsu : s_sureX (M.1 (27 + row)) (M.1 13 1) (M.1 13 2) = s_sureN u a b := by rw [h11, h12]; exact s_sureX_c hU
    have key : ∀ (kz : Nat) (i : Nat) (Mi : q_M), i ≤ n → Mi.2 = M.2 → (∀ r, (r ≤ 27 + row ∨ 33 < r) → Mi.1 r = M.1 r) → s_any i (s_rq n fa ft a b k row A u) = false → s_sureN u a b = false → row < 6 → n - i < kz → q_Wp X (d + 2 * (k + 1) + 3) 53 (45, [some (.ref 0), some (.int (nI A)), some (.int (nI row)), some (.int (nI (k + 1))), some (.int (nI (s_xm n fa ft A))), some (.int (nI i))], [], Mi) (fun r M' => r = some (.int (q_b (s_rch n fa ft a b (k + 1) row A u))) ∧ M'.2 = M.2 ∧ ∀ r, (r ≤ 27 + row ∨ 33 < r) → M'.1 r = M.1 r) := by
      intro kz
      induction kz with
      | zero => intro i Mi hi hI1 hI2 hI3 hsf hrow hm; exact absurd hm (by omega)
      | succ kz ih2 =>
        intro i Mi hi hI1 hI2 hI3 hsf hrow hm
        have hBi : x_bank n fa sh Mi := hB.keep hn (fun r hr => hI2 r (by omega))
        have hSi : x_set n fa wn ft Mi := hS.keep (fun r h1 h2 => hI2 r (by omega))
        refine q_Wp.gn 3 (c' := (54, [some (.ref 0), some (.int (nI A)), some (.int (nI row)), some (.int (nI (k + 1))), some (.int (nI (s_xm n fa ft A))), some (.int (nI i))], [.int (Mi.1 1 0), .int (nI i)], Mi)) rfl ?_
        refine q_Wp.cv (c' := (54, [some (.ref 0), some (.int (nI A)), some (.int (nI row)), some (.int (nI (k + 1))), some (.int (nI (s_xm n fa ft A))), some (.int (nI i))], [.int (nI n), .int (nI i)], Mi)) (by first | rw [hBi.1] | simp only [hBi.1]) ?_
        refine q_Wp.gd 0 ((nI n) ≤ (nI i)) (c1 := (87, [some (.ref 0), some (.int (nI A)), some (.int (nI row)), some (.int (nI (k + 1))), some (.int (nI (s_xm n fa ft A))), some (.int (nI i))], [], Mi)) (c2 := (57, [some (.ref 0), some (.int (nI A)), some (.int (nI row)), some (.int (nI (k + 1))), some (.int (nI (s_xm n fa ft A))), some (.int (nI i))], [], Mi)) rfl (fun g1 => ?_) (fun g1 => ?_)
        · -- t
          have g1 : n ≤ i := (nI_leI (a := n) (b := i) (by omega) (by omega)).mp g1
          refine q_Wp.gn 0 (c' := (88, [some (.ref 0), some (.int (nI A)), some (.int (nI row)), some (.int (nI (k + 1))), some (.int (nI (s_xm n fa ft A))), some (.int (nI i))], [.int 0], Mi)) rfl ?_
          exact q_Wp.rt rfl rfl ⟨by (have e : i = n := by omega); subst e; rw [s_rch, hsf, decide_eq_true hrow]; exact congrArg (fun z => some (Value.int (q_b z))) hI3.symm, hI1, hI2⟩
        · -- f
          have g1 : ¬ n ≤ i := fun z => g1 ((nI_leI (a := n) (b := i) (by omega) (by omega)).mpr z)
          refine q_Wp.gc 2 (mj := 58) (as := [.int (nI (s_xm n fa ft A)), .int (nI i)]) (pc := 64) (ls := [some (.ref 0), some (.int (nI A)), some (.int (nI row)), some (.int (nI (k + 1))), some (.int (nI (s_xm n fa ft A))), some (.int (nI i))]) (st := []) (M := Mi) (r1 := some (.int (q_b (s_isIn (nI (s_xm n fa ft A)) (nI i))))) (M1 := Mi) rfl (c_isIn X ((d + 2 * (k + 1)) + 2) (nI (s_xm n fa ft A)) (nI i) Mi) ?_
          show q_Wp X _ 53 (64, [some (.ref 0), some (.int (nI A)), some (.int (nI row)), some (.int (nI (k + 1))), some (.int (nI (s_xm n fa ft A))), some (.int (nI i))], [.int (q_b (s_isIn (nI (s_xm n fa ft A)) (nI i)))], Mi) _
          refine q_Wp.cv (c' := (64, [some (.ref 0), some (.int (nI A)), some (.int (nI row)), some (.int (nI (k + 1))), some (.int (nI (s_xm n fa ft A))), some (.int (nI i))], [.int (q_b ((s_xm n fa ft A).testBit i))], Mi)) (by first | rw [s_isIn_b (K := s_xm n fa ft A) (q := i) (by omega)] | simp only [s_isIn_b (K := s_xm n fa ft A) (q := i) (by omega)]) ?_
          refine q_Wp.ge0 0 (b := ((s_xm n fa ft A).testBit i)) (c1 := (81, [some (.ref 0), some (.int (nI A)), some (.int (nI row)), some (.int (nI (k + 1))), some (.int (nI (s_xm n fa ft A))), some (.int (nI i))], [], Mi)) (c2 := (67, [some (.ref 0), some (.int (nI A)), some (.int (nI row)), some (.int (nI (k + 1))), some (.int (nI (s_xm n fa ft A))), some (.int (nI i))], [], Mi)) rfl (fun g2 => ?_) (fun g2 => ?_)
          · -- ft
            refine q_Wp.gn 0 (c' := (84, [some (.ref 0), some (.int (nI A)), some (.int (nI row)), some (.int (nI (k + 1))), some (.int (nI (s_xm n fa ft A))), some (.int ((nI i) + 1))], [], Mi)) rfl ?_
            refine q_Wp.cv (c' := (84, [some (.ref 0), some (.int (nI A)), some (.int (nI row)), some (.int (nI (k + 1))), some (.int (nI (s_xm n fa ft A))), some (.int (nI (i + 1)))], [], Mi)) (by first | rw [nI_1] | simp only [nI_1]) ?_
            refine q_Wp.gn 0 (c' := (45, [some (.ref 0), some (.int (nI A)), some (.int (nI row)), some (.int (nI (k + 1))), some (.int (nI (s_xm n fa ft A))), some (.int (nI (i + 1)))], [], Mi)) rfl ?_
            exact ih2 (i + 1) Mi (by omega) hI1 hI2 (by rw [s_any, hI3, s_rq, g2]; rfl) hsf hrow (by omega)
          · -- ff
            refine q_Wp.gp 5 (mj := 54) (as := [.ref 0, .int (nI i), .int (nI A), .int (nI row), .int (nI (k + 1))]) (pc := 76) (ls := [some (.ref 0), some (.int (nI A)), some (.int (nI row)), some (.int (nI (k + 1))), some (.int (nI (s_xm n fa ft A))), some (.int (nI i))]) (st := []) (M := Mi) rfl (hF i row A u Mi (show i < n by omega) (by omega) hA hBi hSi (fun s hs => by rw [hI2 (27 + row) (by omega)]; exact hU s hs) (by rw [hI2 13 (by omega)]; exact h11) (by rw [hI2 13 (by omega)]; exact h12)) (fun r3 M4 hp5 => ?_)
            obtain ⟨rfl, hE5, hF5⟩ := hp5
            show q_Wp X _ 53 (76, [some (.ref 0), some (.int (nI A)), some (.int (nI row)), some (.int (nI (k + 1))), some (.int (nI (s_xm n fa ft A))), some (.int (nI i))], [.int (q_b (s_rch n fa ft a b k (row + 1) (A ||| 2 ^ i) (n_mul u fa i true) && s_rch n fa ft a b k (row + 1) (A ||| 2 ^ i) (n_mul u fa i false)))], M4) _
            refine q_Wp.ge0 0 (b := (s_rch n fa ft a b k (row + 1) (A ||| 2 ^ i) (n_mul u fa i true) && s_rch n fa ft a b k (row + 1) (A ||| 2 ^ i) (n_mul u fa i false))) (c1 := (81, [some (.ref 0), some (.int (nI A)), some (.int (nI row)), some (.int (nI (k + 1))), some (.int (nI (s_xm n fa ft A))), some (.int (nI i))], [], M4)) (c2 := (79, [some (.ref 0), some (.int (nI A)), some (.int (nI row)), some (.int (nI (k + 1))), some (.int (nI (s_xm n fa ft A))), some (.int (nI i))], [], M4)) rfl (fun g6 => ?_) (fun g6 => ?_)
            · -- fft
              refine q_Wp.gn 0 (c' := (84, [some (.ref 0), some (.int (nI A)), some (.int (nI row)), some (.int (nI (k + 1))), some (.int (nI (s_xm n fa ft A))), some (.int ((nI i) + 1))], [], M4)) rfl ?_
              refine q_Wp.cv (c' := (84, [some (.ref 0), some (.int (nI A)), some (.int (nI row)), some (.int (nI (k + 1))), some (.int (nI (s_xm n fa ft A))), some (.int (nI (i + 1)))], [], M4)) (by first | rw [nI_1] | simp only [nI_1]) ?_
              refine q_Wp.gn 0 (c' := (45, [some (.ref 0), some (.int (nI A)), some (.int (nI row)), some (.int (nI (k + 1))), some (.int (nI (s_xm n fa ft A))), some (.int (nI (i + 1)))], [], M4)) rfl ?_
              exact ih2 (i + 1) _ (by omega) (hE5.trans hI1) (fun r hr => (hF5 r hr).trans (hI2 r hr)) (by rw [s_any, hI3, s_rq, g6, Bool.and_false]; rfl) hsf hrow (by omega)
            · -- fff
              refine q_Wp.gn 0 (c' := (80, [some (.ref 0), some (.int (nI A)), some (.int (nI row)), some (.int (nI (k + 1))), some (.int (nI (s_xm n fa ft A))), some (.int (nI i))], [.int 1], M4)) rfl ?_
              exact q_Wp.rt rfl rfl ⟨by rw [s_rch, hsf, decide_eq_true hrow]; exact congrArg (fun z => some (Value.int (q_b z))) (s_any_yes (p := s_rq n fa ft a b k row A u) (i := i) (by rw [s_rq, g2, g6]; rfl) (show i < n by omega)).symm, hE5.trans hI1, fun r hr => (hF5 r hr).trans (hI2 r hr)⟩
    refine q_Ep.ofW rfl ?_
    show q_Wp X (d + 2 * (k + 1) + 3) 53 (0, [some (.ref 0), some (.int (nI A)), some (.int (nI row)), some (.int (nI (k + 1))), none, none], [], M) _
    refine q_Wp.gc 5 (mj := 24) (as := [.ref 23, .int (nI row)]) (pc := 12) (ls := [some (.ref 0), some (.int (nI A)), some (.int (nI row)), some (.int (nI (k + 1))), none, none]) (st := [.ref 13]) (M := M) (r1 := some (.ref (27 + row))) (M1 := M) rfl (c_weightsBehind X ((d + 2 * (k + 1)) + 1) (by omega) M) ?_
    show q_Wp X _ 53 (12, [some (.ref 0), some (.int (nI A)), some (.int (nI row)), some (.int (nI (k + 1))), none, none], [.ref (27 + row), .ref 13], M) _
    refine q_Wp.gc 0 (mj := 21) (as := [.ref 13, .ref (27 + row)]) (pc := 15) (ls := [some (.ref 0), some (.int (nI A)), some (.int (nI row)), some (.int (nI (k + 1))), none, none]) (st := []) (M := M) (r1 := some (.int (q_b (s_sureX (M.1 (27 + row)) (M.1 13 1) (M.1 13 2))))) (M1 := M) rfl (c_areSure X ((d + 2 * (k + 1)) + 1) (q_kd_rows (q := row) (by omega)) M) ?_
    show q_Wp X _ 53 (15, [some (.ref 0), some (.int (nI A)), some (.int (nI row)), some (.int (nI (k + 1))), none, none], [.int (q_b (s_sureX (M.1 (27 + row)) (M.1 13 1) (M.1 13 2)))], M) _
    refine q_Wp.cv (c' := (15, [some (.ref 0), some (.int (nI A)), some (.int (nI row)), some (.int (nI (k + 1))), none, none], [.int (q_b (s_sureN u a b))], M)) (by first | rw [hsu] | simp only [hsu]) ?_
    refine q_Wp.ge0 0 (b := (s_sureN u a b)) (c1 := (20, [some (.ref 0), some (.int (nI A)), some (.int (nI row)), some (.int (nI (k + 1))), none, none], [], M)) (c2 := (18, [some (.ref 0), some (.int (nI A)), some (.int (nI row)), some (.int (nI (k + 1))), none, none], [], M)) rfl (fun g1 => ?_) (fun g1 => ?_)
    · -- t
      refine q_Wp.gd 1 ((nI (k + 1)) ≤ 0) (c1 := (30, [some (.ref 0), some (.int (nI A)), some (.int (nI row)), some (.int (nI (k + 1))), none, none], [], M)) (c2 := (24, [some (.ref 0), some (.int (nI A)), some (.int (nI row)), some (.int (nI (k + 1))), none, none], [], M)) rfl (fun g2 => ?_) (fun g2 => ?_)
      · -- tt
        have g2 : (k + 1) ≤ 0 := (nI_leI (a := (k + 1)) (b := 0) (by omega) (by omega)).mp g2
        exact absurd g2 (by omega)
      · -- tf
        have g2 : ¬ (k + 1) ≤ 0 := fun z => g2 ((nI_leI (a := (k + 1)) (b := 0) (by omega) (by omega)).mpr z)
        refine q_Wp.gd 2 ((nI row) < 6) (c1 := (32, [some (.ref 0), some (.int (nI A)), some (.int (nI row)), some (.int (nI (k + 1))), none, none], [], M)) (c2 := (30, [some (.ref 0), some (.int (nI A)), some (.int (nI row)), some (.int (nI (k + 1))), none, none], [], M)) rfl (fun g3 => ?_) (fun g3 => ?_)
        · -- tft
          have g3 : row < 6 := (nI_ltI (a := row) (b := 6) (by omega) (by omega)).mp g3
          refine q_Wp.gc 3 (mj := 11) (as := [.ref 17, .int (nI A)]) (pc := 40) (ls := [some (.ref 0), some (.int (nI A)), some (.int (nI row)), some (.int (nI (k + 1))), none, none]) (st := []) (M := M) (r1 := some (.int (nI (s_xm n fa ft A)))) (M1 := M) rfl (c_askB X (d + 2 * (k + 1)) (n := n) (A := A) (fa := fa) (wn := wn) (ft := ft) hn hA M hS) ?_
          show q_Wp X _ 53 (40, [some (.ref 0), some (.int (nI A)), some (.int (nI row)), some (.int (nI (k + 1))), none, none], [.int (nI (s_xm n fa ft A))], M) _
          refine q_Wp.gn 2 (c' := (45, [some (.ref 0), some (.int (nI A)), some (.int (nI row)), some (.int (nI (k + 1))), some (.int (nI (s_xm n fa ft A))), some (.int 0)], [], M)) rfl ?_
          exact key (n + 1) 0 M (by omega) rfl (fun _ _ => rfl) rfl g1 g3 (by omega)
        · -- tff
          have g3 : ¬ row < 6 := fun z => g3 ((nI_ltI (a := row) (b := 6) (by omega) (by omega)).mpr z)
          refine q_Wp.gn 0 (c' := (31, [some (.ref 0), some (.int (nI A)), some (.int (nI row)), some (.int (nI (k + 1))), none, none], [.int 0], M)) rfl ?_
          exact q_Wp.rt rfl rfl ⟨by rw [s_rch, g1, decide_eq_false g3]; rfl, rfl, fun _ _ => rfl⟩
    · -- f
      refine q_Wp.gn 0 (c' := (19, [some (.ref 0), some (.int (nI A)), some (.int (nI row)), some (.int (nI (k + 1))), none, none], [.int 1], M)) rfl ?_
      exact q_Wp.rt rfl rfl ⟨by rw [s_rch, g1, Bool.true_or]; rfl, rfl, fun _ _ => rfl⟩

