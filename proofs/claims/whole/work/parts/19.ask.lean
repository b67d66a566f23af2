/-! Contracts: parts of fit sets, what may be asked, the class (by program: wip/whole/c19.py) -/
def s_can (ft : Nat → Bool) (n : Nat) (U : Nat) : Bool := s_tb ft n (2 ^ n) U
def s_th (rt a : Int32) : Int32 := if rt = 0 then s_not a else rt &&& -rt
def s_ab (cn : Nat → Bool) (A : Nat) (th : Int32) (q : Nat) : Bool := !decide (th &&& nI (2 ^ q) = 0) && cn (A ||| 2 ^ q)
theorem s_sub1 (x : Int32) : x - 1 = x + (-1) := Int32.sub_eq_add_neg x 1
theorem pk_m1' (n : Nat) : nI (n + 1) + (-1) = nI n := pk_m1 n
set_option maxRecDepth 10000 in
theorem c_spreadToParts (X : q_X) (d : Nat) {n : Nat} {ft : Nat → Bool} (hn : n ≤ 10) (M : q_M) (hsz : M.1 17 0 = nI n) (hF : ∀ U, U < 2 ^ n → M.1 21 U = q_b (ft U)) : q_Ep X (d + 4) 9 [.ref 17] M (fun r M' => r = none ∧ M'.2 = M.2 ∧ (∀ r, r ≠ 22 → M'.1 r = M.1 r) ∧ ∀ U, U < 2 ^ n → M'.1 22 U = q_b (s_can ft n U)) := by
  refine q_Ep.ofW rfl ?_
  show q_Wp X _ 9 (0, [some (.ref 17), none], [], M) _
  have hpn := s_pw hn
  have hpp : 0 < 2 ^ n := Nat.two_pow_pos n
  have key : ∀ (m : Nat) (Mi : q_M), m ≤ 2 ^ n → Mi.2 = M.2 → (∀ r, r ≠ 22 → Mi.1 r = M.1 r) → (∀ U, m ≤ U → U < 2 ^ n → Mi.1 22 U = q_b (s_tb ft n (2 ^ n - m) U)) → q_Wp X (d + 3) 9 (7, [some (.ref 17), some (.int ((nI m) + (-1)))], [], Mi) (fun r M' => r = none ∧ M'.2 = M.2 ∧ (∀ r, r ≠ 22 → M'.1 r = M.1 r) ∧ ∀ U, U < 2 ^ n → M'.1 22 U = q_b (s_can ft n U)) := by
    intro m
    induction m with
    | zero =>
      intro Mi hm hI1 hI2 hI3
      refine q_Wp.cv (c' := (7, [some (.ref 17), some (.int (-1))], [], Mi)) rfl ?_
      refine q_Wp.gn 1 (c' := (45, [some (.ref 17), some (.int (-1))], [], Mi)) rfl ?_
      exact q_Wp.rt rfl rfl ⟨rfl, hI1, hI2, fun U hU => hI3 U (by omega) hU⟩
    | succ m ih =>
      intro Mi hm hI1 hI2 hI3
      have hfm : Mi.1 21 m = q_b (ft m) := by rw [hI2 21 (by decide)]; exact hF m (by omega)
      have hTz : Mi.1 17 0 = nI n := by rw [hI2 17 (by decide)]; exact hsz
      refine q_Wp.cv (c' := (7, [some (.ref 17), some (.int (nI m))], [], Mi)) (by rw [pk_m1']) ?_
      refine q_Wp.gd 1 ((nI m) < 0) (c1 := (45, [some (.ref 17), some (.int (nI m))], [], Mi)) (c2 := (11, [some (.ref 17), some (.int (nI m))], [], Mi)) rfl (fun g1 => ?_) (fun g1 => ?_)
      · -- t
        have g1 : m < 0 := (nI_ltI (a := m) (b := 0) (by omega) (by omega)).mp g1
        exact absurd g1 (by omega)
      · -- f
        have g1 : ¬ m < 0 := fun z => g1 ((nI_ltI (a := m) (b := 0) (by omega) (by omega)).mpr z)
        refine q_Wp.gn 5 (c' := (21, [some (.ref 17), some (.int (nI m))], [.int (nI m), .ref 21, .int (nI m), .ref 22], Mi)) rfl ?_
        refine q_Wp.zld (i := m) rfl (rfl) rfl (by omega) (by decide) ?_
        show q_Wp X _ 9 (22, [some (.ref 17), some (.int (nI m))], [.int (Mi.1 21 m), .int (nI m), .ref 22], Mi) _
        refine q_Wp.cv (c' := (22, [some (.ref 17), some (.int (nI m))], [.int (q_b (ft m)), .int (nI m), .ref 22], Mi)) (by first | rw [hfm] | simp only [hfm]) ?_
        refine q_Wp.gn0 0 (b := (ft m)) (c1 := (33, [some (.ref 17), some (.int (nI m))], [.int (nI m), .ref 22], Mi)) (c2 := (25, [some (.ref 17), some (.int (nI m))], [.int (nI m), .ref 22], Mi)) rfl (fun g2 => ?_) (fun g2 => ?_)
        · -- ft
          refine q_Wp.gn 1 (c' := (38, [some (.ref 17), some (.int (nI m))], [.int 1, .int (nI m), .ref 22], Mi)) rfl ?_
          refine q_Wp.zst (i := m) rfl (rfl) rfl (by omega) (by decide) (by decide) ?_
          show q_Wp X _ 9 (39, [some (.ref 17), some (.int (nI m))], [], q_up Mi 22 m 1) _
          refine q_Wp.gn 1 (c' := (7, [some (.ref 17), some (.int ((nI m) + (-1)))], [], q_up Mi 22 m 1)) rfl ?_
          have hv : (ft m || s_any n (s_nb (s_tb ft n (2 ^ n - (m + 1))) m)) = true := by rw [g2, Bool.true_or]
          refine ih _ (by omega) hI1 (fun r hr => (q_up_ne _ _ _ hr).trans (hI2 r hr)) (fun U hU1 hU2 => ?_)
          rw [show 2 ^ n - m = (2 ^ n - (m + 1)) + 1 by omega, s_tb]
          by_cases e : U = m
          · subst e; rw [q_up_s, if_pos (by omega), hv]; rfl
          · rw [q_up_o _ _ _ e, if_neg (by omega)]; exact hI3 U (by omega) hU2
        · -- ff
          refine q_Wp.gc 2 (mj := 14) (as := [.ref 17, .int (nI m)]) (pc := 30) (ls := [some (.ref 17), some (.int (nI m))]) (st := [.int (nI m), .ref 22]) (M := Mi) (r1 := some (.int (q_b (s_any n (s_nb (s_tb ft n (2 ^ n - (m + 1))) m))))) (M1 := Mi) rfl (c_isPartOfBigger X d (n := n) (S := m) (cn := (s_tb ft n (2 ^ n - (m + 1)))) hn (show m < 2 ^ n by omega) Mi hTz (fun i hin htb => hI3 _ (s_orgt htb) (s_orlt (show m < 2 ^ n by omega) hin))) ?_
          show q_Wp X _ 9 (30, [some (.ref 17), some (.int (nI m))], [.int (q_b (s_any n (s_nb (s_tb ft n (2 ^ n - (m + 1))) m))), .int (nI m), .ref 22], Mi) _
          refine q_Wp.ge0 0 (b := (s_any n (s_nb (s_tb ft n (2 ^ n - (m + 1))) m))) (c1 := (37, [some (.ref 17), some (.int (nI m))], [.int (nI m), .ref 22], Mi)) (c2 := (33, [some (.ref 17), some (.int (nI m))], [.int (nI m), .ref 22], Mi)) rfl (fun g3 => ?_) (fun g3 => ?_)
          · -- fft
            refine q_Wp.gn 0 (c' := (38, [some (.ref 17), some (.int (nI m))], [.int 0, .int (nI m), .ref 22], Mi)) rfl ?_
            refine q_Wp.zst (i := m) rfl (rfl) rfl (by omega) (by decide) (by decide) ?_
            show q_Wp X _ 9 (39, [some (.ref 17), some (.int (nI m))], [], q_up Mi 22 m 0) _
            refine q_Wp.gn 1 (c' := (7, [some (.ref 17), some (.int ((nI m) + (-1)))], [], q_up Mi 22 m 0)) rfl ?_
            have hv : (ft m || s_any n (s_nb (s_tb ft n (2 ^ n - (m + 1))) m)) = false := by rw [g2, g3]; rfl
            refine ih _ (by omega) hI1 (fun r hr => (q_up_ne _ _ _ hr).trans (hI2 r hr)) (fun U hU1 hU2 => ?_)
            rw [show 2 ^ n - m = (2 ^ n - (m + 1)) + 1 by omega, s_tb]
            by_cases e : U = m
            · subst e; rw [q_up_s, if_pos (by omega), hv]; rfl
            · rw [q_up_o _ _ _ e, if_neg (by omega)]; exact hI3 U (by omega) hU2
          · -- fff
            refine q_Wp.gn 1 (c' := (38, [some (.ref 17), some (.int (nI m))], [.int 1, .int (nI m), .ref 22], Mi)) rfl ?_
            refine q_Wp.zst (i := m) rfl (rfl) rfl (by omega) (by decide) (by decide) ?_
            show q_Wp X _ 9 (39, [some (.ref 17), some (.int (nI m))], [], q_up Mi 22 m 1) _
            refine q_Wp.gn 1 (c' := (7, [some (.ref 17), some (.int ((nI m) + (-1)))], [], q_up Mi 22 m 1)) rfl ?_
            have hv : (ft m || s_any n (s_nb (s_tb ft n (2 ^ n - (m + 1))) m)) = true := by rw [g2, g3]; rfl
            refine ih _ (by omega) hI1 (fun r hr => (q_up_ne _ _ _ hr).trans (hI2 r hr)) (fun U hU1 hU2 => ?_)
            rw [show 2 ^ n - m = (2 ^ n - (m + 1)) + 1 by omega, s_tb]
            by_cases e : U = m
            · subst e; rw [q_up_s, if_pos (by omega), hv]; rfl
            · rw [q_up_o _ _ _ e, if_neg (by omega)]; exact hI3 U (by omega) hU2
  refine q_Wp.gc 1 (mj := 12) (as := [.ref 17]) (pc := 4) (ls := [some (.ref 17), none]) (st := []) (M := M) (r1 := some (.int (nI (2 ^ n)))) (M1 := M) rfl (c_total X (d + 2) (n := n) hn M hsz) ?_
  show q_Wp X _ 9 (4, [some (.ref 17), none], [.int (nI (2 ^ n))], M) _
  refine q_Wp.gn 1 (c' := (6, [some (.ref 17), none], [.int ((nI (2 ^ n)) - 1)], M)) rfl ?_
  refine q_Wp.cv (c' := (6, [some (.ref 17), none], [.int ((nI (2 ^ n)) + (-1))], M)) (by first | rw [s_sub1] | simp only [s_sub1]) ?_
  refine q_Wp.gn 0 (c' := (7, [some (.ref 17), some (.int ((nI (2 ^ n)) + (-1)))], [], M)) rfl ?_
  exact key (2 ^ n) M (Nat.le_refl _) rfl (fun _ _ => rfl) (fun U h1 h2 => absurd h1 (by omega))

set_option maxRecDepth 10000 in
theorem c_askableBehind (X : q_X) (d : Nat) {n A : Nat} {cn : Nat → Bool} (hn : n ≤ 10) (hA : A < 2 ^ n) (M : q_M) (hsz : M.1 17 0 = nI n) (hT : ∀ U, U < 2 ^ n → M.1 22 U = q_b (cn U)) : q_Ev X (d + 3) 11 [.ref 17, .int (nI A)] M (some (.int (nI (s_mk n (s_ab cn A (s_th (s_rt (nI A) (M.1 18)) (nI A))))))) (M) := by
  refine q_Ev.ofW rfl ?_
  show q_Wp X _ 11 (0, [some (.ref 17), some (.int (nI A)), none, none, none, none, none], [], M) _
  have hpn := s_pw hn
  have key : ∀ (kz : Nat) (i : Nat) (bg th a : Int32) (z : Option Value), i ≤ n → a = nI (s_mk i (s_ab cn A th)) → n - i < kz → q_Wp X (d + 2) 11 (27, [some (.ref 17), some (.int (nI A)), some (.int bg), some (.int th), some (.int a), some (.int (nI i)), z], [], M) (fun r M' => r = some (.int (nI (s_mk n (s_ab cn A th)))) ∧ M' = M) := by
    intro kz
    induction kz with
    | zero => intro i bg th a z hi ha hm; exact absurd hm (by omega)
    | succ kz ih =>
      intro i bg th a z hi ha hm
      refine q_Wp.gn 2 (c' := (33, [some (.ref 17), some (.int (nI A)), some (.int bg), some (.int th), some (.int a), some (.int (nI i)), z], [.int (M.1 17 0), .int (nI i)], M)) rfl ?_
      refine q_Wp.cv (c' := (33, [some (.ref 17), some (.int (nI A)), some (.int bg), some (.int th), some (.int a), some (.int (nI i)), z], [.int (nI n), .int (nI i)], M)) (by first | rw [hsz] | simp only [hsz]) ?_
      refine q_Wp.gd 0 ((nI n) ≤ (nI i)) (c1 := (73, [some (.ref 17), some (.int (nI A)), some (.int bg), some (.int th), some (.int a), some (.int (nI i)), z], [], M)) (c2 := (36, [some (.ref 17), some (.int (nI A)), some (.int bg), some (.int th), some (.int a), some (.int (nI i)), z], [], M)) rfl (fun g1 => ?_) (fun g1 => ?_)
      · -- t
        have g1 : n ≤ i := (nI_leI (a := n) (b := i) (by omega) (by omega)).mp g1
        refine q_Wp.gn 0 (c' := (75, [some (.ref 17), some (.int (nI A)), some (.int bg), some (.int th), some (.int a), some (.int (nI i)), z], [.int a], M)) rfl ?_
        exact q_Wp.rt rfl rfl ⟨by (have e : i = n := by omega); subst e; rw [ha], by rfl⟩
      · -- f
        have g1 : ¬ n ≤ i := fun z => g1 ((nI_leI (a := n) (b := i) (by omega) (by omega)).mpr z)
        refine q_Wp.gn 2 (c' := (40, [some (.ref 17), some (.int (nI A)), some (.int bg), some (.int th), some (.int a), some (.int (nI i)), z], [.int (1 <<< ((nI i) &&& 31))], M)) rfl ?_
        refine q_Wp.cv (c' := (40, [some (.ref 17), some (.int (nI A)), some (.int bg), some (.int th), some (.int a), some (.int (nI i)), z], [.int (nI (2 ^ i))], M)) (by first | rw [s_1shl i (by omega)] | simp only [s_1shl i (by omega)]) ?_
        refine q_Wp.gd 4 ((th &&& (nI (2 ^ i))) = 0) (c1 := (67, [some (.ref 17), some (.int (nI A)), some (.int bg), some (.int th), some (.int a), some (.int (nI i)), some (.int (nI (2 ^ i)))], [], M)) (c2 := (49, [some (.ref 17), some (.int (nI A)), some (.int bg), some (.int th), some (.int a), some (.int (nI i)), some (.int (nI (2 ^ i)))], [], M)) rfl (fun g2 => ?_) (fun g2 => ?_)
        · -- ft
          refine q_Wp.gn 0 (c' := (70, [some (.ref 17), some (.int (nI A)), some (.int bg), some (.int th), some (.int a), some (.int ((nI i) + 1)), some (.int (nI (2 ^ i)))], [], M)) rfl ?_
          refine q_Wp.cv (c' := (70, [some (.ref 17), some (.int (nI A)), some (.int bg), some (.int th), some (.int a), some (.int (nI (i + 1))), some (.int (nI (2 ^ i)))], [], M)) (by first | rw [nI_1] | simp only [nI_1]) ?_
          refine q_Wp.gn 0 (c' := (27, [some (.ref 17), some (.int (nI A)), some (.int bg), some (.int th), some (.int a), some (.int (nI (i + 1))), some (.int (nI (2 ^ i)))], [], M)) rfl ?_
          exact ih (i + 1) _ _ _ _ (by omega) (s_mk_no ha (by rw [s_ab, decide_eq_true g2]; rfl)) (by omega)
        · -- ff
          refine q_Wp.gn 3 (c' := (54, [some (.ref 17), some (.int (nI A)), some (.int bg), some (.int th), some (.int a), some (.int (nI i)), some (.int (nI (2 ^ i)))], [.int ((nI A) ||| (nI (2 ^ i))), .ref 17], M)) rfl ?_
          refine q_Wp.cv (c' := (54, [some (.ref 17), some (.int (nI A)), some (.int bg), some (.int th), some (.int a), some (.int (nI i)), some (.int (nI (2 ^ i)))], [.int (nI (A ||| 2 ^ i)), .ref 17], M)) (by first | rw [s_or] | simp only [s_or]) ?_
          refine q_Wp.gc 0 (mj := 13) (as := [.ref 17, .int (nI (A ||| 2 ^ i))]) (pc := 57) (ls := [some (.ref 17), some (.int (nI A)), some (.int bg), some (.int th), some (.int a), some (.int (nI i)), some (.int (nI (2 ^ i)))]) (st := []) (M := M) (r1 := some (.int (q_b (cn (A ||| 2 ^ i))))) (M1 := M) rfl (c_isPartOfFit X d (n := n) (S := (A ||| 2 ^ i)) hn (s_orlt hA (show i < n by omega)) M hsz (hT _ (s_orlt hA (show i < n by omega)))) ?_
          show q_Wp X _ 11 (57, [some (.ref 17), some (.int (nI A)), some (.int bg), some (.int th), some (.int a), some (.int (nI i)), some (.int (nI (2 ^ i)))], [.int (q_b (cn (A ||| 2 ^ i)))], M) _
          refine q_Wp.ge0 0 (b := (cn (A ||| 2 ^ i))) (c1 := (67, [some (.ref 17), some (.int (nI A)), some (.int bg), some (.int th), some (.int a), some (.int (nI i)), some (.int (nI (2 ^ i)))], [], M)) (c2 := (60, [some (.ref 17), some (.int (nI A)), some (.int bg), some (.int th), some (.int a), some (.int (nI i)), some (.int (nI (2 ^ i)))], [], M)) rfl (fun g3 => ?_) (fun g3 => ?_)
          · -- fft
            refine q_Wp.gn 0 (c' := (70, [some (.ref 17), some (.int (nI A)), some (.int bg), some (.int th), some (.int a), some (.int ((nI i) + 1)), some (.int (nI (2 ^ i)))], [], M)) rfl ?_
            refine q_Wp.cv (c' := (70, [some (.ref 17), some (.int (nI A)), some (.int bg), some (.int th), some (.int a), some (.int (nI (i + 1))), some (.int (nI (2 ^ i)))], [], M)) (by first | rw [nI_1] | simp only [nI_1]) ?_
            refine q_Wp.gn 0 (c' := (27, [some (.ref 17), some (.int (nI A)), some (.int bg), some (.int th), some (.int a), some (.int (nI (i + 1))), some (.int (nI (2 ^ i)))], [], M)) rfl ?_
            exact ih (i + 1) _ _ _ _ (by omega) (s_mk_no ha (by rw [s_ab, g3, Bool.and_false])) (by omega)
          · -- fff
            refine q_Wp.gn 4 (c' := (70, [some (.ref 17), some (.int (nI A)), some (.int bg), some (.int th), some (.int (a ||| (nI (2 ^ i)))), some (.int ((nI i) + 1)), some (.int (nI (2 ^ i)))], [], M)) rfl ?_
            refine q_Wp.cv (c' := (70, [some (.ref 17), some (.int (nI A)), some (.int bg), some (.int th), some (.int (a ||| (nI (2 ^ i)))), some (.int (nI (i + 1))), some (.int (nI (2 ^ i)))], [], M)) (by first | rw [nI_1] | simp only [nI_1]) ?_
            refine q_Wp.gn 0 (c' := (27, [some (.ref 17), some (.int (nI A)), some (.int bg), some (.int th), some (.int (a ||| (nI (2 ^ i)))), some (.int (nI (i + 1))), some (.int (nI (2 ^ i)))], [], M)) rfl ?_
            exact ih (i + 1) _ _ _ _ (by omega) (s_mk_or ha (by rw [s_ab, g3, decide_eq_false g2]; rfl)) (by omega)
  refine q_Wp.gc 2 (mj := 20) (as := [.ref 17, .int (nI A)]) (pc := 5) (ls := [some (.ref 17), some (.int (nI A)), none, none, none, none, none]) (st := []) (M := M) (r1 := some (.int (s_rt (nI A) (M.1 18)))) (M1 := M) rfl (c_restOfBegunTexts X (d + 1) (nI A) M) ?_
  show q_Wp X _ 11 (5, [some (.ref 17), some (.int (nI A)), none, none, none, none, none], [.int (s_rt (nI A) (M.1 18))], M) _
  refine q_Wp.gd 2 ((s_rt (nI A) (M.1 18)) = 0) (c1 := (17, [some (.ref 17), some (.int (nI A)), some (.int (s_rt (nI A) (M.1 18))), none, none, none, none], [], M)) (c2 := (10, [some (.ref 17), some (.int (nI A)), some (.int (s_rt (nI A) (M.1 18))), none, none, none, none], [], M)) rfl (fun h1 => ?_) (fun h1 => ?_)
  · -- t
    refine q_Wp.gn 2 (c' := (20, [some (.ref 17), some (.int (nI A)), some (.int (s_rt (nI A) (M.1 18))), none, none, none, none], [.int ((nI A) ^^^ (-1))], M)) rfl ?_
    refine q_Wp.cv (c' := (20, [some (.ref 17), some (.int (nI A)), some (.int (s_rt (nI A) (M.1 18))), none, none, none, none], [.int (s_not (nI A))], M)) (by first | rw [s_not_e] | simp only [s_not_e]) ?_
    refine q_Wp.gn 4 (c' := (27, [some (.ref 17), some (.int (nI A)), some (.int (s_rt (nI A) (M.1 18))), some (.int (s_not (nI A))), some (.int 0), some (.int 0), none], [], M)) rfl ?_
    rw [show s_th (s_rt (nI A) (M.1 18)) (nI A) = s_not (nI A) from if_pos h1]
    exact key (n + 1) 0 _ _ _ _ (by omega) rfl (by omega)
  · -- f
    refine q_Wp.gn 9 (c' := (27, [some (.ref 17), some (.int (nI A)), some (.int (s_rt (nI A) (M.1 18))), some (.int ((s_rt (nI A) (M.1 18)) &&& (-(s_rt (nI A) (M.1 18))))), some (.int 0), some (.int 0), none], [], M)) rfl ?_
    rw [show s_th (s_rt (nI A) (M.1 18)) (nI A) = (s_rt (nI A) (M.1 18)) &&& (-(s_rt (nI A) (M.1 18))) from if_neg h1]
    exact key (n + 1) 0 _ _ _ _ (by omega) rfl (by omega)

