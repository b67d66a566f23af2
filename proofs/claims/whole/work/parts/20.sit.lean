/-! Contracts: a sitting of the class, inside (by program: wip/whole/c20.py) -/
def x_set (n : Nat) (fa : Nat → Nat → Nat) (wn : Nat → Bool) (ft : Nat → Bool) (M : q_M) : Prop := M.1 17 0 = nI n ∧ s_sorted fa wn n M ∧ (∀ U, U < 2 ^ n → M.1 21 U = q_b (ft U)) ∧ ∀ U, U < 2 ^ n → M.1 22 U = q_b (s_can ft n U)
theorem x_set.keep {n : Nat} {fa : Nat → Nat → Nat} {wn : Nat → Bool} {ft : Nat → Bool} {M M' : q_M} (h : x_set n fa wn ft M) (hf : ∀ r, 17 ≤ r → r ≤ 22 → M'.1 r = M.1 r) : x_set n fa wn ft M' := by
  obtain ⟨h1, h2, h3, h4⟩ := h
  refine ⟨by rw [hf 17 (by decide) (by decide)]; exact h1, h2.keep (hf 17 (by decide) (by decide)) (hf 18 (by decide) (by decide)) (hf 19 (by decide) (by decide)) (hf 20 (by decide) (by decide)), fun U hU => ?_, fun U hU => ?_⟩
  · rw [hf 21 (by decide) (by decide)]; exact h3 U hU
  · rw [hf 22 (by decide) (by decide)]; exact h4 U hU
/-- the masks of texts, group by group -/
def s_tx (n : Nat) (fa : Nat → Nat → Nat) (g : Nat) : Int32 := nI (s_mk n (fun q => decide (fa q 0 = 1) && decide (fa q 1 = g)))
theorem s_rt_c {a : Int32} {T T' : Nat → Int32} (h : ∀ g, g < 3 → T g = T' g) : s_rt a T = s_rt a T' := by
  unfold s_rt
  rw [h 0 (by decide), h 1 (by decide), h 2 (by decide)]
/-- what may be asked, in the class's bits -/
def s_xm (n : Nat) (fa : Nat → Nat → Nat) (ft : Nat → Bool) (A : Nat) : Nat := s_mk n (s_ab (s_can ft n) A (s_th (s_rt (nI A) (s_tx n fa)) (nI A)))
theorem s_xm_lt (n : Nat) (fa : Nat → Nat → Nat) (ft : Nat → Bool) (A : Nat) : s_xm n fa ft A < 2 ^ n := s_mk_lt _ _
theorem c_askB (X : q_X) (d : Nat) {n A : Nat} {fa : Nat → Nat → Nat} {wn ft : Nat → Bool} (hn : n ≤ 10) (hA : A < 2 ^ n) (M : q_M) (hs : x_set n fa wn ft M) : q_Ev X (d + 3) 11 [.ref 17, .int (nI A)] M (some (.int (nI (s_xm n fa ft A)))) M := by
  have h := c_askableBehind X d (cn := s_can ft n) hn hA M hs.1 hs.2.2.2
  rw [s_rt_c (T' := s_tx n fa) hs.2.1.2.2.1] at h
  exact h
set_option maxRecDepth 10000 in
theorem c_askable (X : q_X) (d : Nat) {n A : Nat} {fa : Nat → Nat → Nat} {wn ft : Nat → Bool} (hn : n ≤ 10) (hA : A < 2 ^ n) (M : q_M) (hs : x_set n fa wn ft M) (hAM : M.1 23 3 = nI A) : q_Ev X (d + 4) 49 [.ref 0] M (some (.int (nI (s_xm n fa ft A)))) (M) := by
  refine q_Ev.ofW rfl ?_
  show q_Wp X _ 49 (0, [some (.ref 0)], [], M) _
  refine q_Wp.gn 4 (c' := (11, [some (.ref 0)], [.int (M.1 23 3), .ref 17], M)) rfl ?_
  refine q_Wp.cv (c' := (11, [some (.ref 0)], [.int (nI A), .ref 17], M)) (by first | rw [hAM] | simp only [hAM]) ?_
  refine q_Wp.gc 0 (mj := 11) (as := [.ref 17, .int (nI A)]) (pc := 14) (ls := [some (.ref 0)]) (st := []) (M := M) (r1 := some (.int (nI (s_xm n fa ft A)))) (M1 := M) rfl (c_askB X d (n := n) (A := A) (fa := fa) (wn := wn) (ft := ft) hn hA M hs) ?_
  show q_Wp X _ 49 (14, [some (.ref 0)], [.int (nI (s_xm n fa ft A))], M) _
  exact q_Wp.rt rfl rfl ⟨by rfl, by rfl⟩

def s_done (fit sure : Bool) (K : Nat) : Int32 := if fit = true then (if sure = true then 1 else if K = 0 then 2 else 0) else 0
set_option maxRecDepth 10000 in
theorem c_doneness (X : q_X) (d : Nat) {n A t : Nat} {fa : Nat → Nat → Nat} {wn ft : Nat → Bool} (hn : n ≤ 10) (hA : A < 2 ^ n) (ht : t ≤ 6) (M : q_M) (hs : x_set n fa wn ft M) (hAM : M.1 23 3 = nI A) (hT : M.1 23 2 = nI t) : q_Ev X (d + 5) 50 [.ref 0] M (some (.int (s_done (ft A) (s_sureX (M.1 (27 + t)) (M.1 13 1) (M.1 13 2)) (s_xm n fa ft A)))) (M) := by
  refine q_Ev.ofW rfl ?_
  show q_Wp X _ 50 (0, [some (.ref 0)], [], M) _
  have hK := s_xm_lt n fa ft A
  have hpn := s_pw hn
  refine q_Wp.gn 4 (c' := (11, [some (.ref 0)], [.int (M.1 23 3), .ref 17], M)) rfl ?_
  refine q_Wp.cv (c' := (11, [some (.ref 0)], [.int (nI A), .ref 17], M)) (by first | rw [hAM] | simp only [hAM]) ?_
  refine q_Wp.gc 0 (mj := 10) (as := [.ref 17, .int (nI A)]) (pc := 14) (ls := [some (.ref 0)]) (st := []) (M := M) (r1 := some (.int (q_b (ft A)))) (M1 := M) rfl (c_isFit X (d + 2) (n := n) (S := A) hn hA M hs.1 (hs.2.2.1 A hA)) ?_
  show q_Wp X _ 50 (14, [some (.ref 0)], [.int (q_b (ft A))], M) _
  refine q_Wp.gn0 0 (b := (ft A)) (c1 := (19, [some (.ref 0)], [], M)) (c2 := (17, [some (.ref 0)], [], M)) rfl (fun h1 => ?_) (fun h1 => ?_)
  · -- t
    refine q_Wp.gc 4 (mj := 23) (as := [.ref 23]) (pc := 30) (ls := [some (.ref 0)]) (st := [.ref 13]) (M := M) (r1 := some (.ref (27 + t))) (M1 := M) rfl (c_weights X (d + 1) (by omega) M hT) ?_
    show q_Wp X _ 50 (30, [some (.ref 0)], [.ref (27 + t), .ref 13], M) _
    refine q_Wp.gc 0 (mj := 21) (as := [.ref 13, .ref (27 + t)]) (pc := 33) (ls := [some (.ref 0)]) (st := []) (M := M) (r1 := some (.int (q_b (s_sureX (M.1 (27 + t)) (M.1 13 1) (M.1 13 2))))) (M1 := M) rfl (c_areSure X (d + 2) (q_kd_rows (q := t) (by omega)) M) ?_
    show q_Wp X _ 50 (33, [some (.ref 0)], [.int (q_b (s_sureX (M.1 (27 + t)) (M.1 13 1) (M.1 13 2)))], M) _
    refine q_Wp.ge0 0 (b := (s_sureX (M.1 (27 + t)) (M.1 13 1) (M.1 13 2))) (c1 := (38, [some (.ref 0)], [], M)) (c2 := (36, [some (.ref 0)], [], M)) rfl (fun h2 => ?_) (fun h2 => ?_)
    · -- tt
      refine q_Wp.gc 1 (mj := 49) (as := [.ref 0]) (pc := 42) (ls := [some (.ref 0)]) (st := []) (M := M) (r1 := some (.int (nI (s_xm n fa ft A)))) (M1 := M) rfl (c_askable X d (n := n) (A := A) (fa := fa) (wn := wn) (ft := ft) hn hA M hs hAM) ?_
      show q_Wp X _ 50 (42, [some (.ref 0)], [.int (nI (s_xm n fa ft A))], M) _
      refine q_Wp.gd 0 (¬ (nI (s_xm n fa ft A)) = 0) (c1 := (49, [some (.ref 0)], [], M)) (c2 := (45, [some (.ref 0)], [], M)) rfl (fun h3 => ?_) (fun h3 => ?_)
      · -- ttt
        have h3 : ¬ (s_xm n fa ft A) = 0 := fun z => h3 ((nI_eq (a := (s_xm n fa ft A)) (b := 0) (by omega) (by omega)).mpr z)
        refine q_Wp.gn 0 (c' := (50, [some (.ref 0)], [.int 0], M)) rfl ?_
        exact q_Wp.rt rfl rfl ⟨by simp [s_done, *], by rfl⟩
      · -- ttf
        have h3 : (s_xm n fa ft A) = 0 := (nI_eq (a := (s_xm n fa ft A)) (b := 0) (by omega) (by omega)).mp (Classical.byContradiction h3)
        refine q_Wp.gn 1 (c' := (50, [some (.ref 0)], [.int 2], M)) rfl ?_
        exact q_Wp.rt rfl rfl ⟨by simp [s_done, *], by rfl⟩
    · -- tf
      refine q_Wp.gn 0 (c' := (37, [some (.ref 0)], [.int 1], M)) rfl ?_
      exact q_Wp.rt rfl rfl ⟨by simp [s_done, *], by rfl⟩
  · -- f
    refine q_Wp.gn 0 (c' := (18, [some (.ref 0)], [.int 0], M)) rfl ?_
    exact q_Wp.rt rfl rfl ⟨by simp [s_done, *], by rfl⟩

def s_open (M : q_M) : q_M := q_cpy (q_up (q_up (q_up M 23 0 1) 23 2 0) 23 3 0) 16 27 0 0 6
set_option maxRecDepth 10000 in
theorem c_open (X : q_X) (d : Nat)  (M : q_M) : q_Ev X (d + 1) 22 [.ref 23, .ref 13] M (none) (s_open M) := by
  refine q_Ev.ofW rfl ?_
  show q_Wp X _ 22 (0, [some (.ref 23), some (.ref 13)], [], M) _
  refine q_Wp.gn 18 (c' := (32, [some (.ref 23), some (.ref 13)], [], q_cpy (q_up (q_up (q_up M 23 0 1) 23 2 0) 23 3 0) 16 27 0 0 6)) rfl ?_
  exact q_Wp.rt rfl rfl ⟨by rfl, by rfl⟩

theorem s_offb {A q : Nat} (hA : A < 1024) (hq : q < 10) (h : A.testBit q = false) : nI (A ||| 2 ^ q) &&& (nI (2 ^ q) ^^^ (-1)) = nI A := by
  have key : ∀ q, q < 10 → ∀ A, A < 1024 → A.testBit q = false → nI (A ||| 2 ^ q) &&& (nI (2 ^ q) ^^^ (-1)) = nI A := by decide +kernel
  exact key q hq A hA h
set_option maxRecDepth 10000 in
theorem c_takeLatest (X : q_X) (d : Nat) {t A q : Nat} (ht : t ≤ 5) (hA : A < 1024) (hq : q < 10) (hqA : A.testBit q = false) (M : q_M) (hT : M.1 23 2 = nI (t + 1)) (hAM : M.1 23 3 = nI (A ||| 2 ^ q)) (hQ : M.1 24 t = nI q) : q_Ev X (d + 2) 27 [.ref 23] M (some (.int (nI q))) (q_up (q_up M 23 2 (nI t)) 23 3 (nI A)) := by
  refine q_Ev.ofW rfl ?_
  show q_Wp X _ 27 (0, [some (.ref 23)], [], M) _
  have hw : s_in (nI (t + 1)) 1 6 = true := s_in_ok (b := 1) (c := 6) (by omega) (by omega) (by omega)
  refine q_Wp.gn 1 (c' := (4, [some (.ref 23)], [.int (M.1 23 2)], M)) rfl ?_
  refine q_Wp.cv (c' := (4, [some (.ref 23)], [.int (nI (t + 1))], M)) (by first | rw [hT] | simp only [hT]) ?_
  refine q_Wp.gc 2 (mj := 55) (as := [.int (nI (t + 1)), .int 1, .int 6]) (pc := 10) (ls := [some (.ref 23)]) (st := []) (M := M) (r1 := some (.int (q_b (s_in (nI (t + 1)) 1 6)))) (M1 := M) rfl (c_isWithin X d (nI (t + 1)) 1 6 M) ?_
  show q_Wp X _ 27 (10, [some (.ref 23)], [.int (q_b (s_in (nI (t + 1)) 1 6))], M) _
  refine q_Wp.cv (c' := (10, [some (.ref 23)], [.int 1], M)) (by first | rw [hw, q_bt] | simp only [hw, q_bt]) ?_
  refine q_Wp.gn 3 (c' := (21, [some (.ref 23)], [.int (M.1 23 2), .ref 23], M)) rfl ?_
  refine q_Wp.cv (c' := (21, [some (.ref 23)], [.int (nI (t + 1)), .ref 23], M)) (by first | rw [hT] | simp only [hT]) ?_
  refine q_Wp.gn 1 (c' := (23, [some (.ref 23)], [.int ((nI (t + 1)) - 1), .ref 23], M)) rfl ?_
  refine q_Wp.cv (c' := (23, [some (.ref 23)], [.int (nI t), .ref 23], M)) (by first | rw [nI_pred t] | simp only [nI_pred t]) ?_
  refine q_Wp.gn 3 (c' := (31, [some (.ref 23)], [.int (M.1 23 3), .ref 23], q_up M 23 2 (nI t))) rfl ?_
  refine q_Wp.cv (c' := (31, [some (.ref 23)], [.int (nI (A ||| 2 ^ q)), .ref 23], q_up M 23 2 (nI t))) (by first | rw [hAM] | simp only [hAM]) ?_
  refine q_Wp.gn 4 (c' := (40, [some (.ref 23)], [.int (nI t), .ref 24, .int 1, .int (nI (A ||| 2 ^ q)), .ref 23], q_up M 23 2 (nI t))) rfl ?_
  refine q_Wp.ild (i := t) rfl (rfl) rfl (by omega) (by decide) ?_
  show q_Wp X _ 27 (41, [some (.ref 23)], [.int (M.1 24 t), .int 1, .int (nI (A ||| 2 ^ q)), .ref 23], q_up M 23 2 (nI t)) _
  refine q_Wp.cv (c' := (41, [some (.ref 23)], [.int (nI q), .int 1, .int (nI (A ||| 2 ^ q)), .ref 23], q_up M 23 2 (nI t))) (by first | rw [hQ] | simp only [hQ]) ?_
  refine q_Wp.gn 0 (c' := (42, [some (.ref 23)], [.int (1 <<< ((nI q) &&& 31)), .int (nI (A ||| 2 ^ q)), .ref 23], q_up M 23 2 (nI t))) rfl ?_
  refine q_Wp.cv (c' := (42, [some (.ref 23)], [.int (nI (2 ^ q)), .int (nI (A ||| 2 ^ q)), .ref 23], q_up M 23 2 (nI t))) (by first | rw [s_1shl q (by omega)] | simp only [s_1shl q (by omega)]) ?_
  refine q_Wp.gn 2 (c' := (45, [some (.ref 23)], [.int ((nI (A ||| 2 ^ q)) &&& ((nI (2 ^ q)) ^^^ (-1))), .ref 23], q_up M 23 2 (nI t))) rfl ?_
  refine q_Wp.cv (c' := (45, [some (.ref 23)], [.int (nI A), .ref 23], q_up M 23 2 (nI t))) (by first | rw [s_offb hA hq hqA] | simp only [s_offb hA hq hqA]) ?_
  refine q_Wp.gn 4 (c' := (56, [some (.ref 23)], [.int (nI t), .ref 24], q_up (q_up M 23 2 (nI t)) 23 3 (nI A))) rfl ?_
  refine q_Wp.ild (i := t) rfl (rfl) rfl (by omega) (by decide) ?_
  show q_Wp X _ 27 (57, [some (.ref 23)], [.int (M.1 24 t)], q_up (q_up M 23 2 (nI t)) 23 3 (nI A)) _
  refine q_Wp.cv (c' := (57, [some (.ref 23)], [.int (nI q)], q_up (q_up M 23 2 (nI t)) 23 3 (nI A))) (by first | rw [hQ] | simp only [hQ]) ?_
  exact q_Wp.rt rfl rfl ⟨by rfl, by rfl⟩

set_option maxRecDepth 10000 in
theorem c_note (X : q_X) (d : Nat) {n k t A : Nat} (ht : t ≤ 5) (rg : Bool) (M : q_M) (hsz : M.1 1 0 = nI n) (hk : k < n) (hn : n ≤ 10) (hT : M.1 23 2 = nI t) (hAM : M.1 23 3 = nI A) : q_Ep X (d + 4) 26 [.ref 23, .ref 1, .int (nI k), .int (q_b rg)] M (fun r M' => r = none ∧ M'.2 = M.2 ∧ (∀ r, r ≠ 27 + (t + 1) → r ≠ 23 → r ≠ 24 → r ≠ 25 → M'.1 r = M.1 r) ∧ (∀ s, s < 6 → M'.1 (27 + (t + 1)) s = M.1 (27 + t) s * s_fac (M.1 (3 + k)) s (q_b rg)) ∧ M'.1 23 0 = M.1 23 0 ∧ M'.1 23 1 = M.1 23 1 ∧ M'.1 23 2 = nI (t + 1) ∧ M'.1 23 3 = nI (A ||| 2 ^ k) ∧ (∀ i, M'.1 24 i = if i = t then nI k else M.1 24 i) ∧ ∀ i, M'.1 25 i = if i = t then q_b rg else M.1 25 i) := by
  refine q_Ep.ofW rfl ?_
  show q_Wp X _ 26 (0, [some (.ref 23), some (.ref 1), some (.int (nI k)), some (.int (q_b rg))], [], M) _
  have hk10 : k < 10 := by omega
  have hw : s_in (nI t) 0 5 = true := s_in_ok (b := 0) (c := 5) (by omega) (by omega) (by omega)
  refine q_Wp.gn 1 (c' := (4, [some (.ref 23), some (.ref 1), some (.int (nI k)), some (.int (q_b rg))], [.int (M.1 23 2)], M)) rfl ?_
  refine q_Wp.cv (c' := (4, [some (.ref 23), some (.ref 1), some (.int (nI k)), some (.int (q_b rg))], [.int (nI t)], M)) (by first | rw [hT] | simp only [hT]) ?_
  refine q_Wp.gc 2 (mj := 55) (as := [.int (nI t), .int 0, .int 5]) (pc := 9) (ls := [some (.ref 23), some (.ref 1), some (.int (nI k)), some (.int (q_b rg))]) (st := []) (M := M) (r1 := some (.int (q_b (s_in (nI t) 0 5)))) (M1 := M) rfl (c_isWithin X (d + 2) (nI t) 0 5 M) ?_
  show q_Wp X _ 26 (9, [some (.ref 23), some (.ref 1), some (.int (nI k)), some (.int (q_b rg))], [.int (q_b (s_in (nI t) 0 5))], M) _
  refine q_Wp.cv (c' := (9, [some (.ref 23), some (.ref 1), some (.int (nI k)), some (.int (q_b rg))], [.int 1], M)) (by first | rw [hw, q_bt] | simp only [hw, q_bt]) ?_
  refine q_Wp.gn 4 (c' := (19, [some (.ref 23), some (.ref 1), some (.int (nI k)), some (.int (q_b rg))], [.int (M.1 23 2), .ref 1, .ref 23], M)) rfl ?_
  refine q_Wp.cv (c' := (19, [some (.ref 23), some (.ref 1), some (.int (nI k)), some (.int (q_b rg))], [.int (nI t), .ref 1, .ref 23], M)) (by first | rw [hT] | simp only [hT]) ?_
  refine q_Wp.gp 2 (mj := 25) (as := [.ref 23, .ref 1, .int (nI t), .int (nI k), .int (q_b rg)]) (pc := 24) (ls := [some (.ref 23), some (.ref 1), some (.int (nI k)), some (.int (q_b rg))]) (st := []) (M := M) rfl (c_weigh X d (n := n) (k := k) (j := t) (by omega) (q_b rg) M hsz hk hn) (fun r1 M2 hp3 => ?_)
  obtain ⟨rfl, hA3, hB3, hD3⟩ := hp3
  show q_Wp X _ 26 (24, [some (.ref 23), some (.ref 1), some (.int (nI k)), some (.int (q_b rg))], [], M2) _
  refine q_Wp.gn 3 (c' := (32, [some (.ref 23), some (.ref 1), some (.int (nI k)), some (.int (q_b rg))], [.int (M2.1 23 2), .ref 24], M2)) rfl ?_
  refine q_Wp.cv (c' := (32, [some (.ref 23), some (.ref 1), some (.int (nI k)), some (.int (q_b rg))], [.int (nI t), .ref 24], M2)) (by first | rw [hB3 23 (by omega), hT] | simp only [hB3 23 (by omega), hT]) ?_
  refine q_Wp.gn 0 (c' := (33, [some (.ref 23), some (.ref 1), some (.int (nI k)), some (.int (q_b rg))], [.int (nI k), .int (nI t), .ref 24], M2)) rfl ?_
  refine q_Wp.ist (i := t) rfl (rfl) rfl (by omega) (by decide) ?_
  show q_Wp X _ 26 (34, [some (.ref 23), some (.ref 1), some (.int (nI k)), some (.int (q_b rg))], [], q_up M2 24 t (nI k)) _
  refine q_Wp.gn 3 (c' := (42, [some (.ref 23), some (.ref 1), some (.int (nI k)), some (.int (q_b rg))], [.int (M2.1 23 2), .ref 25], q_up M2 24 t (nI k))) rfl ?_
  refine q_Wp.cv (c' := (42, [some (.ref 23), some (.ref 1), some (.int (nI k)), some (.int (q_b rg))], [.int (nI t), .ref 25], q_up M2 24 t (nI k))) (by first | rw [hB3 23 (by omega), hT] | simp only [hB3 23 (by omega), hT]) ?_
  refine q_Wp.gn 0 (c' := (43, [some (.ref 23), some (.ref 1), some (.int (nI k)), some (.int (q_b rg))], [.int (q_b rg), .int (nI t), .ref 25], q_up M2 24 t (nI k))) rfl ?_
  refine q_Wp.zst (i := t) rfl (rfl) rfl (by omega) (by decide) (q_b01 _) ?_
  show q_Wp X _ 26 (44, [some (.ref 23), some (.ref 1), some (.int (nI k)), some (.int (q_b rg))], [], q_up (q_up M2 24 t (nI k)) 25 t (q_b rg)) _
  refine q_Wp.gn 2 (c' := (49, [some (.ref 23), some (.ref 1), some (.int (nI k)), some (.int (q_b rg))], [.int (M2.1 23 3), .ref 23], q_up (q_up M2 24 t (nI k)) 25 t (q_b rg))) rfl ?_
  refine q_Wp.cv (c' := (49, [some (.ref 23), some (.ref 1), some (.int (nI k)), some (.int (q_b rg))], [.int (nI A), .ref 23], q_up (q_up M2 24 t (nI k)) 25 t (q_b rg))) (by first | rw [hB3 23 (by omega), hAM] | simp only [hB3 23 (by omega), hAM]) ?_
  refine q_Wp.gn 2 (c' := (52, [some (.ref 23), some (.ref 1), some (.int (nI k)), some (.int (q_b rg))], [.int (1 <<< ((nI k) &&& 31)), .int (nI A), .ref 23], q_up (q_up M2 24 t (nI k)) 25 t (q_b rg))) rfl ?_
  refine q_Wp.cv (c' := (52, [some (.ref 23), some (.ref 1), some (.int (nI k)), some (.int (q_b rg))], [.int (nI (2 ^ k)), .int (nI A), .ref 23], q_up (q_up M2 24 t (nI k)) 25 t (q_b rg))) (by first | rw [s_1shl k (by omega)] | simp only [s_1shl k (by omega)]) ?_
  refine q_Wp.gn 0 (c' := (53, [some (.ref 23), some (.ref 1), some (.int (nI k)), some (.int (q_b rg))], [.int ((nI A) ||| (nI (2 ^ k))), .ref 23], q_up (q_up M2 24 t (nI k)) 25 t (q_b rg))) rfl ?_
  refine q_Wp.cv (c' := (53, [some (.ref 23), some (.ref 1), some (.int (nI k)), some (.int (q_b rg))], [.int (nI (A ||| 2 ^ k)), .ref 23], q_up (q_up M2 24 t (nI k)) 25 t (q_b rg))) (by first | rw [s_or] | simp only [s_or]) ?_
  refine q_Wp.gn 3 (c' := (61, [some (.ref 23), some (.ref 1), some (.int (nI k)), some (.int (q_b rg))], [.int (M2.1 23 2), .ref 23], q_up (q_up (q_up M2 24 t (nI k)) 25 t (q_b rg)) 23 3 (nI (A ||| 2 ^ k)))) rfl ?_
  refine q_Wp.cv (c' := (61, [some (.ref 23), some (.ref 1), some (.int (nI k)), some (.int (q_b rg))], [.int (nI t), .ref 23], q_up (q_up (q_up M2 24 t (nI k)) 25 t (q_b rg)) 23 3 (nI (A ||| 2 ^ k)))) (by first | rw [hB3 23 (by omega), hT] | simp only [hB3 23 (by omega), hT]) ?_
  refine q_Wp.gn 1 (c' := (63, [some (.ref 23), some (.ref 1), some (.int (nI k)), some (.int (q_b rg))], [.int ((nI t) + 1), .ref 23], q_up (q_up (q_up M2 24 t (nI k)) 25 t (q_b rg)) 23 3 (nI (A ||| 2 ^ k)))) rfl ?_
  refine q_Wp.cv (c' := (63, [some (.ref 23), some (.ref 1), some (.int (nI k)), some (.int (q_b rg))], [.int (nI (t + 1)), .ref 23], q_up (q_up (q_up M2 24 t (nI k)) 25 t (q_b rg)) 23 3 (nI (A ||| 2 ^ k)))) (by first | rw [nI_1] | simp only [nI_1]) ?_
  refine q_Wp.gn 0 (c' := (66, [some (.ref 23), some (.ref 1), some (.int (nI k)), some (.int (q_b rg))], [], q_up (q_up (q_up (q_up M2 24 t (nI k)) 25 t (q_b rg)) 23 3 (nI (A ||| 2 ^ k))) 23 2 (nI (t + 1)))) rfl ?_
  refine q_Wp.rt rfl rfl ?_
  refine ⟨rfl, hA3, fun r h1 h2 h3 h4 => ?_, fun s hs => ?_, ?_, ?_, ?_, ?_, fun i => ?_, fun i => ?_⟩
  · rw [q_up_ne _ _ _ h2, q_up_ne _ _ _ h2, q_up_ne _ _ _ h4, q_up_ne _ _ _ h3]; exact hB3 r h1
  · rw [q_up_ne _ _ _ (by omega), q_up_ne _ _ _ (by omega), q_up_ne _ _ _ (by omega), q_up_ne _ _ _ (by omega)]; exact hD3 s hs
  · rw [q_up_o _ _ _ (by decide), q_up_o _ _ _ (by decide), q_up_ne _ _ _ (by decide), q_up_ne _ _ _ (by decide), hB3 23 (by omega)]
  · rw [q_up_o _ _ _ (by decide), q_up_o _ _ _ (by decide), q_up_ne _ _ _ (by decide), q_up_ne _ _ _ (by decide), hB3 23 (by omega)]
  · rw [q_up_s]
  · rw [q_up_o _ _ _ (by decide), q_up_s]
  · rw [q_up_ne _ _ _ (by decide), q_up_ne _ _ _ (by decide), q_up_ne _ _ _ (by decide)]
    by_cases e : i = t
    · subst e; rw [q_up_s, if_pos rfl]
    · rw [q_up_o _ _ _ e, if_neg e, hB3 24 (by omega)]
  · rw [q_up_ne _ _ _ (by decide), q_up_ne _ _ _ (by decide)]
    by_cases e : i = t
    · subst e; rw [q_up_s, if_pos rfl]
    · rw [q_up_o _ _ _ e, if_neg e, q_up_ne _ _ _ (by decide), hB3 25 (by omega)]

