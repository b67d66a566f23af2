/-! Contracts: the model's tables, what may be asked (by program: wip/whole/c23.py) -/
set_option maxRecDepth 10000 in
theorem c_findFits (X : q_X) (d : Nat) {n : Nat} {fa : Nat → Nat → Nat} {sh : Nat → Int32} (hO : ok_bank n fa) (M : q_M) (hB : m_bank n fa sh M) : q_Ep X (d + 4) 80 [.ref 34] M (fun r M' => r = some (.int (nI (s_ct (2 ^ n) (s_mf n fa sh (M.1 41) (M.1 42) (M.1 34 7))))) ∧ M'.2 = M.2 ∧ (∀ r, r ≠ 47 → r ≠ 48 → M'.1 r = M.1 r) ∧ (∀ U, U < 2 ^ n → M'.1 47 U = q_b ((s_mf n fa sh (M.1 41) (M.1 42) (M.1 34 7)) U)) ∧ ∀ U, U < 2 ^ n → M'.1 48 U = q_b (s_can (s_mf n fa sh (M.1 41) (M.1 42) (M.1 34 7)) n U)) := by
  refine q_Ep.ofW rfl ?_
  show q_Wp X _ 80 (0, [some (.ref 34), none, none, none], [], M) _
  have hn := hO.1
  have hpn := s_pw hn
  have hpp : 0 < 2 ^ n := Nat.two_pow_pos n
  have key : ∀ (m : Nat) (z : Option Value) (c : Nat) (Mi : q_M), m ≤ 2 ^ n → Mi.2 = M.2 → (∀ r, r ≠ 47 → r ≠ 48 → Mi.1 r = M.1 r) → (∀ U, m ≤ U → U < 2 ^ n → Mi.1 47 U = q_b ((s_mf n fa sh (M.1 41) (M.1 42) (M.1 34 7)) U)) → (∀ U, m ≤ U → U < 2 ^ n → Mi.1 48 U = q_b (s_tb (s_mf n fa sh (M.1 41) (M.1 42) (M.1 34 7)) n (2 ^ n - m) U)) → c + s_ct m (s_mf n fa sh (M.1 41) (M.1 42) (M.1 34 7)) = s_ct (2 ^ n) (s_mf n fa sh (M.1 41) (M.1 42) (M.1 34 7)) → q_Wp X (d + 3) 80 (11, [some (.ref 34), some (.int (nI c)), some (.int ((nI m) + (-1))), z], [], Mi) (fun r M' => r = some (.int (nI (s_ct (2 ^ n) (s_mf n fa sh (M.1 41) (M.1 42) (M.1 34 7))))) ∧ M'.2 = M.2 ∧ (∀ r, r ≠ 47 → r ≠ 48 → M'.1 r = M.1 r) ∧ (∀ U, U < 2 ^ n → M'.1 47 U = q_b ((s_mf n fa sh (M.1 41) (M.1 42) (M.1 34 7)) U)) ∧ ∀ U, U < 2 ^ n → M'.1 48 U = q_b (s_can (s_mf n fa sh (M.1 41) (M.1 42) (M.1 34 7)) n U)) := by
    intro m
    induction m with
    | zero =>
      intro z c Mi hm hI1 hI2 hI3 hI4 hc
      refine q_Wp.cv (c' := (11, [some (.ref 34), some (.int (nI c)), some (.int (-1)), z], [], Mi)) rfl ?_
      refine q_Wp.gn 2 (c' := (119, [some (.ref 34), some (.int (nI c)), some (.int (-1)), z], [.int (nI c)], Mi)) rfl ?_
      exact q_Wp.rt rfl rfl ⟨by rw [show c = s_ct (2 ^ n) (s_mf n fa sh (M.1 41) (M.1 42) (M.1 34 7)) from by simpa [s_ct] using hc], hI1, hI2, fun U hU => hI3 U (by omega) hU, fun U hU => hI4 U (by omega) hU⟩
    | succ m ih =>
      have key3 : ∀ (c : Nat), m < 2 ^ n → c + s_ct m (s_mf n fa sh (M.1 41) (M.1 42) (M.1 34 7)) = s_ct (2 ^ n) (s_mf n fa sh (M.1 41) (M.1 42) (M.1 34 7)) → ∀ (kz : Nat) (i : Nat) (bj : Bool) (Mj : q_M), i ≤ n → Mj.2 = M.2 → (∀ r, r ≠ 47 → r ≠ 48 → Mj.1 r = M.1 r) → (∀ U, m ≤ U → U < 2 ^ n → Mj.1 47 U = q_b ((s_mf n fa sh (M.1 41) (M.1 42) (M.1 34 7)) U)) → (∀ U, m < U → U < 2 ^ n → Mj.1 48 U = q_b (s_tb (s_mf n fa sh (M.1 41) (M.1 42) (M.1 34 7)) n (2 ^ n - (m + 1)) U)) → Mj.1 48 m = q_b bj → bj = ((s_mf n fa sh (M.1 41) (M.1 42) (M.1 34 7)) m || s_any i (s_nb (s_tb (s_mf n fa sh (M.1 41) (M.1 42) (M.1 34 7)) n (2 ^ n - (m + 1))) m)) → n - i < kz → q_Wp X (d + 3) 80 (57, [some (.ref 34), some (.int (nI c)), some (.int (nI m)), some (.int (nI i))], [], Mj) (fun r M' => r = some (.int (nI (s_ct (2 ^ n) (s_mf n fa sh (M.1 41) (M.1 42) (M.1 34 7))))) ∧ M'.2 = M.2 ∧ (∀ r, r ≠ 47 → r ≠ 48 → M'.1 r = M.1 r) ∧ (∀ U, U < 2 ^ n → M'.1 47 U = q_b ((s_mf n fa sh (M.1 41) (M.1 42) (M.1 34 7)) U)) ∧ ∀ U, U < 2 ^ n → M'.1 48 U = q_b (s_can (s_mf n fa sh (M.1 41) (M.1 42) (M.1 34 7)) n U)) := by
        intro c hmn hcc kz
        induction kz with
        | zero => intro i bj Mj hi hJ1 hJ2 hJ3 hJ4 hbj hbj' hm2; exact absurd hm2 (by omega)
        | succ kz ih3 =>
          intro i bj Mj hi hJ1 hJ2 hJ3 hJ4 hbj hbj' hm2
          refine q_Wp.gn 2 (c' := (62, [some (.ref 34), some (.int (nI c)), some (.int (nI m)), some (.int (nI i))], [.int (Mj.1 34 0), .int (nI i)], Mj)) rfl ?_
          refine q_Wp.cv (c' := (62, [some (.ref 34), some (.int (nI c)), some (.int (nI m)), some (.int (nI i))], [.int (nI n), .int (nI i)], Mj)) (by first | rw [hJ2 34 (by decide) (by decide), hB.1] | simp only [hJ2 34 (by decide) (by decide), hB.1]) ?_
          refine q_Wp.gd 0 ((nI n) ≤ (nI i)) (c1 := (112, [some (.ref 34), some (.int (nI c)), some (.int (nI m)), some (.int (nI i))], [], Mj)) (c2 := (65, [some (.ref 34), some (.int (nI c)), some (.int (nI m)), some (.int (nI i))], [], Mj)) rfl (fun j1 => ?_) (fun j1 => ?_)
          · -- t
            have j1 : n ≤ i := (nI_leI (a := n) (b := i) (by omega) (by omega)).mp j1
            refine q_Wp.gn 1 (c' := (11, [some (.ref 34), some (.int (nI c)), some (.int ((nI m) + (-1))), some (.int (nI i))], [], Mj)) rfl ?_
            (have e : i = n := by omega)
            subst e
            refine ih _ c _ (by omega) hJ1 hJ2 (fun U h1 h2 => hJ3 U h1 h2) (fun U h1 h2 => ?_) hcc
            rw [show 2 ^ i - m = (2 ^ i - (m + 1)) + 1 by omega, s_tb]
            by_cases e : U = m
            · subst e; rw [if_pos (by omega), hbj, hbj']
            · rw [if_neg (by omega)]; exact hJ4 U (by omega) h2
          · -- f
            have j1 : ¬ n ≤ i := fun z => j1 ((nI_leI (a := n) (b := i) (by omega) (by omega)).mpr z)
            refine q_Wp.gn 5 (c' := (75, [some (.ref 34), some (.int (nI c)), some (.int (nI m)), some (.int (nI i))], [.int (nI m), .ref 48, .int (nI m), .ref 48], Mj)) rfl ?_
            refine q_Wp.zld (i := m) rfl (rfl) rfl (by omega) (by decide) ?_
            show q_Wp X _ 80 (76, [some (.ref 34), some (.int (nI c)), some (.int (nI m)), some (.int (nI i))], [.int (Mj.1 48 m), .int (nI m), .ref 48], Mj) _
            refine q_Wp.cv (c' := (76, [some (.ref 34), some (.int (nI c)), some (.int (nI m)), some (.int (nI i))], [.int (q_b bj), .int (nI m), .ref 48], Mj)) (by first | rw [hbj] | simp only [hbj]) ?_
            refine q_Wp.gn0 0 (b := bj) (c1 := (100, [some (.ref 34), some (.int (nI c)), some (.int (nI m)), some (.int (nI i))], [.int (nI m), .ref 48], Mj)) (c2 := (79, [some (.ref 34), some (.int (nI c)), some (.int (nI m)), some (.int (nI i))], [.int (nI m), .ref 48], Mj)) rfl (fun j2 => ?_) (fun j2 => ?_)
            · -- ft
              refine q_Wp.gn 1 (c' := (105, [some (.ref 34), some (.int (nI c)), some (.int (nI m)), some (.int (nI i))], [.int 1, .int (nI m), .ref 48], Mj)) rfl ?_
              refine q_Wp.zst (i := m) rfl (rfl) rfl (by omega) (by decide) (by decide) ?_
              show q_Wp X _ 80 (106, [some (.ref 34), some (.int (nI c)), some (.int (nI m)), some (.int (nI i))], [], q_up Mj 48 m 1) _
              refine q_Wp.gn 0 (c' := (109, [some (.ref 34), some (.int (nI c)), some (.int (nI m)), some (.int ((nI i) + 1))], [], q_up Mj 48 m 1)) rfl ?_
              refine q_Wp.cv (c' := (109, [some (.ref 34), some (.int (nI c)), some (.int (nI m)), some (.int (nI (i + 1)))], [], q_up Mj 48 m 1)) (by first | rw [nI_1] | simp only [nI_1]) ?_
              refine q_Wp.gn 0 (c' := (57, [some (.ref 34), some (.int (nI c)), some (.int (nI m)), some (.int (nI (i + 1)))], [], q_up Mj 48 m 1)) rfl ?_
              have hv : ((s_mf n fa sh (M.1 41) (M.1 42) (M.1 34 7)) m || s_any (i + 1) (s_nb (s_tb (s_mf n fa sh (M.1 41) (M.1 42) (M.1 34 7)) n (2 ^ n - (m + 1))) m)) = true := by rw [s_any, ← Bool.or_assoc, ← hbj', s_nb]; simp [j2]
              refine ih3 (i + 1) true _ (by omega) hJ1 (fun r h1 h2 => (q_up_ne _ _ _ h2).trans (hJ2 r h1 h2)) (fun U h1 h2 => (congrFun (q_up_ne _ _ _ (by decide)) U).trans (hJ3 U h1 h2)) (fun U h1 h2 => (q_up_o _ _ _ (by omega)).trans (hJ4 U h1 h2)) (q_up_s _ _ _ _) hv.symm (by omega)
            · -- ff
              refine q_Wp.gc 2 (mj := 77) (as := [.int (nI m), .int (nI i)]) (pc := 84) (ls := [some (.ref 34), some (.int (nI c)), some (.int (nI m)), some (.int (nI i))]) (st := [.int (nI m), .ref 48]) (M := Mj) (r1 := some (.int (q_b (m.testBit i)))) (M1 := Mj) rfl (c_mhas X (d + 2) (S := m) (q := i) (show m < 1024 by omega) (by omega) Mj) ?_
              show q_Wp X _ 80 (84, [some (.ref 34), some (.int (nI c)), some (.int (nI m)), some (.int (nI i))], [.int (q_b (m.testBit i)), .int (nI m), .ref 48], Mj) _
              refine q_Wp.gn0 0 (b := (m.testBit i)) (c1 := (104, [some (.ref 34), some (.int (nI c)), some (.int (nI m)), some (.int (nI i))], [.int (nI m), .ref 48], Mj)) (c2 := (87, [some (.ref 34), some (.int (nI c)), some (.int (nI m)), some (.int (nI i))], [.int (nI m), .ref 48], Mj)) rfl (fun j3 => ?_) (fun j3 => ?_)
              · -- fft
                refine q_Wp.gn 0 (c' := (105, [some (.ref 34), some (.int (nI c)), some (.int (nI m)), some (.int (nI i))], [.int 0, .int (nI m), .ref 48], Mj)) rfl ?_
                refine q_Wp.zst (i := m) rfl (rfl) rfl (by omega) (by decide) (by decide) ?_
                show q_Wp X _ 80 (106, [some (.ref 34), some (.int (nI c)), some (.int (nI m)), some (.int (nI i))], [], q_up Mj 48 m 0) _
                refine q_Wp.gn 0 (c' := (109, [some (.ref 34), some (.int (nI c)), some (.int (nI m)), some (.int ((nI i) + 1))], [], q_up Mj 48 m 0)) rfl ?_
                refine q_Wp.cv (c' := (109, [some (.ref 34), some (.int (nI c)), some (.int (nI m)), some (.int (nI (i + 1)))], [], q_up Mj 48 m 0)) (by first | rw [nI_1] | simp only [nI_1]) ?_
                refine q_Wp.gn 0 (c' := (57, [some (.ref 34), some (.int (nI c)), some (.int (nI m)), some (.int (nI (i + 1)))], [], q_up Mj 48 m 0)) rfl ?_
                have hv : ((s_mf n fa sh (M.1 41) (M.1 42) (M.1 34 7)) m || s_any (i + 1) (s_nb (s_tb (s_mf n fa sh (M.1 41) (M.1 42) (M.1 34 7)) n (2 ^ n - (m + 1))) m)) = false := by rw [s_any, ← Bool.or_assoc, ← hbj', s_nb]; simp [j2, j3]
                refine ih3 (i + 1) false _ (by omega) hJ1 (fun r h1 h2 => (q_up_ne _ _ _ h2).trans (hJ2 r h1 h2)) (fun U h1 h2 => (congrFun (q_up_ne _ _ _ (by decide)) U).trans (hJ3 U h1 h2)) (fun U h1 h2 => (q_up_o _ _ _ (by omega)).trans (hJ4 U h1 h2)) (q_up_s _ _ _ _) hv.symm (by omega)
              · -- fff
                have hmi : m.testBit i = false := j3
                have hml : m ||| 2 ^ i < 2 ^ n := s_orlt hmn (show i < n by omega)
                refine q_Wp.gn 5 (c' := (95, [some (.ref 34), some (.int (nI c)), some (.int (nI m)), some (.int (nI i))], [.int (1 <<< ((nI i) &&& 31)), .int (nI m), .ref 48, .int (nI m), .ref 48], Mj)) rfl ?_
                refine q_Wp.cv (c' := (95, [some (.ref 34), some (.int (nI c)), some (.int (nI m)), some (.int (nI i))], [.int (nI (2 ^ i)), .int (nI m), .ref 48, .int (nI m), .ref 48], Mj)) (by first | rw [s_1shl i (by omega)] | simp only [s_1shl i (by omega)]) ?_
                refine q_Wp.gn 0 (c' := (96, [some (.ref 34), some (.int (nI c)), some (.int (nI m)), some (.int (nI i))], [.int ((nI m) ||| (nI (2 ^ i))), .ref 48, .int (nI m), .ref 48], Mj)) rfl ?_
                refine q_Wp.cv (c' := (96, [some (.ref 34), some (.int (nI c)), some (.int (nI m)), some (.int (nI i))], [.int (nI (m ||| 2 ^ i)), .ref 48, .int (nI m), .ref 48], Mj)) (by first | rw [s_or] | simp only [s_or]) ?_
                refine q_Wp.zld (i := (m ||| 2 ^ i)) rfl (rfl) rfl (by omega) (by decide) ?_
                show q_Wp X _ 80 (97, [some (.ref 34), some (.int (nI c)), some (.int (nI m)), some (.int (nI i))], [.int (Mj.1 48 (m ||| 2 ^ i)), .int (nI m), .ref 48], Mj) _
                refine q_Wp.cv (c' := (97, [some (.ref 34), some (.int (nI c)), some (.int (nI m)), some (.int (nI i))], [.int (q_b (s_tb (s_mf n fa sh (M.1 41) (M.1 42) (M.1 34 7)) n (2 ^ n - (m + 1)) (m ||| 2 ^ i))), .int (nI m), .ref 48], Mj)) (by first | rw [hJ4 _ (s_orgt hmi) (s_orlt (show m < 2 ^ n by omega) (show i < n by omega))] | simp only [hJ4 _ (s_orgt hmi) (s_orlt (show m < 2 ^ n by omega) (show i < n by omega))]) ?_
                refine q_Wp.ge0 0 (b := (s_tb (s_mf n fa sh (M.1 41) (M.1 42) (M.1 34 7)) n (2 ^ n - (m + 1)) (m ||| 2 ^ i))) (c1 := (104, [some (.ref 34), some (.int (nI c)), some (.int (nI m)), some (.int (nI i))], [.int (nI m), .ref 48], Mj)) (c2 := (100, [some (.ref 34), some (.int (nI c)), some (.int (nI m)), some (.int (nI i))], [.int (nI m), .ref 48], Mj)) rfl (fun j4 => ?_) (fun j4 => ?_)
                · -- ffft
                  refine q_Wp.gn 0 (c' := (105, [some (.ref 34), some (.int (nI c)), some (.int (nI m)), some (.int (nI i))], [.int 0, .int (nI m), .ref 48], Mj)) rfl ?_
                  refine q_Wp.zst (i := m) rfl (rfl) rfl (by omega) (by decide) (by decide) ?_
                  show q_Wp X _ 80 (106, [some (.ref 34), some (.int (nI c)), some (.int (nI m)), some (.int (nI i))], [], q_up Mj 48 m 0) _
                  refine q_Wp.gn 0 (c' := (109, [some (.ref 34), some (.int (nI c)), some (.int (nI m)), some (.int ((nI i) + 1))], [], q_up Mj 48 m 0)) rfl ?_
                  refine q_Wp.cv (c' := (109, [some (.ref 34), some (.int (nI c)), some (.int (nI m)), some (.int (nI (i + 1)))], [], q_up Mj 48 m 0)) (by first | rw [nI_1] | simp only [nI_1]) ?_
                  refine q_Wp.gn 0 (c' := (57, [some (.ref 34), some (.int (nI c)), some (.int (nI m)), some (.int (nI (i + 1)))], [], q_up Mj 48 m 0)) rfl ?_
                  have hv : ((s_mf n fa sh (M.1 41) (M.1 42) (M.1 34 7)) m || s_any (i + 1) (s_nb (s_tb (s_mf n fa sh (M.1 41) (M.1 42) (M.1 34 7)) n (2 ^ n - (m + 1))) m)) = false := by rw [s_any, ← Bool.or_assoc, ← hbj', s_nb]; simp [j2, j3, j4]
                  refine ih3 (i + 1) false _ (by omega) hJ1 (fun r h1 h2 => (q_up_ne _ _ _ h2).trans (hJ2 r h1 h2)) (fun U h1 h2 => (congrFun (q_up_ne _ _ _ (by decide)) U).trans (hJ3 U h1 h2)) (fun U h1 h2 => (q_up_o _ _ _ (by omega)).trans (hJ4 U h1 h2)) (q_up_s _ _ _ _) hv.symm (by omega)
                · -- ffff
                  refine q_Wp.gn 1 (c' := (105, [some (.ref 34), some (.int (nI c)), some (.int (nI m)), some (.int (nI i))], [.int 1, .int (nI m), .ref 48], Mj)) rfl ?_
                  refine q_Wp.zst (i := m) rfl (rfl) rfl (by omega) (by decide) (by decide) ?_
                  show q_Wp X _ 80 (106, [some (.ref 34), some (.int (nI c)), some (.int (nI m)), some (.int (nI i))], [], q_up Mj 48 m 1) _
                  refine q_Wp.gn 0 (c' := (109, [some (.ref 34), some (.int (nI c)), some (.int (nI m)), some (.int ((nI i) + 1))], [], q_up Mj 48 m 1)) rfl ?_
                  refine q_Wp.cv (c' := (109, [some (.ref 34), some (.int (nI c)), some (.int (nI m)), some (.int (nI (i + 1)))], [], q_up Mj 48 m 1)) (by first | rw [nI_1] | simp only [nI_1]) ?_
                  refine q_Wp.gn 0 (c' := (57, [some (.ref 34), some (.int (nI c)), some (.int (nI m)), some (.int (nI (i + 1)))], [], q_up Mj 48 m 1)) rfl ?_
                  have hv : ((s_mf n fa sh (M.1 41) (M.1 42) (M.1 34 7)) m || s_any (i + 1) (s_nb (s_tb (s_mf n fa sh (M.1 41) (M.1 42) (M.1 34 7)) n (2 ^ n - (m + 1))) m)) = true := by rw [s_any, ← Bool.or_assoc, ← hbj', s_nb]; simp [j2, j3, j4]
                  refine ih3 (i + 1) true _ (by omega) hJ1 (fun r h1 h2 => (q_up_ne _ _ _ h2).trans (hJ2 r h1 h2)) (fun U h1 h2 => (congrFun (q_up_ne _ _ _ (by decide)) U).trans (hJ3 U h1 h2)) (fun U h1 h2 => (q_up_o _ _ _ (by omega)).trans (hJ4 U h1 h2)) (q_up_s _ _ _ _) hv.symm (by omega)
      intro z c Mi hm hI1 hI2 hI3 hI4 hc
      have hBi : m_bank n fa sh Mi := hB.keep (congrFun (hI2 34 (by decide) (by decide)) 0) (fun r h1 h2 => hI2 r (by omega) (by omega))
      obtain ⟨ftm, hftm⟩ : ∃ z, z = (s_mf n fa sh (M.1 41) (M.1 42) (M.1 34 7)) m := ⟨_, rfl⟩
      have hft : s_mf n fa sh (Mi.1 41) (Mi.1 42) (Mi.1 34 7) m = ftm := by rw [hI2 41 (by decide) (by decide), hI2 42 (by decide) (by decide), hI2 34 (by decide) (by decide)]; exact hftm.symm
      refine q_Wp.cv (c' := (11, [some (.ref 34), some (.int (nI c)), some (.int (nI m)), z], [], Mi)) (by rw [pk_m1']) ?_
      refine q_Wp.gd 1 ((nI m) < 0) (c1 := (118, [some (.ref 34), some (.int (nI c)), some (.int (nI m)), z], [], Mi)) (c2 := (15, [some (.ref 34), some (.int (nI c)), some (.int (nI m)), z], [], Mi)) rfl (fun g1 => ?_) (fun g1 => ?_)
      · -- t
        have g1 : m < 0 := (nI_ltI (a := m) (b := 0) (by omega) (by omega)).mp g1
        exact absurd g1 (by omega)
      · -- f
        have g1 : ¬ m < 0 := fun z => g1 ((nI_ltI (a := m) (b := 0) (by omega) (by omega)).mpr z)
        refine q_Wp.gc 5 (mj := 79) (as := [.ref 34, .int (nI m)]) (pc := 25) (ls := [some (.ref 34), some (.int (nI c)), some (.int (nI m)), z]) (st := [.int (nI m), .ref 47]) (M := Mi) (r1 := some (.int (q_b (s_mf n fa sh (Mi.1 41) (Mi.1 42) (Mi.1 34 7) m)))) (M1 := Mi) rfl (c_isFitM X d (n := n) (S := m) (fa := fa) (sh := sh) hO (show m < 1024 by omega) Mi hBi) ?_
        show q_Wp X _ 80 (25, [some (.ref 34), some (.int (nI c)), some (.int (nI m)), z], [.int (q_b (s_mf n fa sh (Mi.1 41) (Mi.1 42) (Mi.1 34 7) m)), .int (nI m), .ref 47], Mi) _
        refine q_Wp.cv (c' := (25, [some (.ref 34), some (.int (nI c)), some (.int (nI m)), z], [.int (q_b (ftm)), .int (nI m), .ref 47], Mi)) (by first | rw [hft] | simp only [hft]) ?_
        refine q_Wp.zst (i := m) rfl (rfl) rfl (by omega) (by decide) (q_b01 _) ?_
        show q_Wp X _ 80 (26, [some (.ref 34), some (.int (nI c)), some (.int (nI m)), z], [], q_up Mi 47 m (q_b (ftm))) _
        refine q_Wp.gn 5 (c' := (36, [some (.ref 34), some (.int (nI c)), some (.int (nI m)), z], [.int (nI m), .ref 47, .int (nI m), .ref 48], q_up Mi 47 m (q_b (ftm)))) rfl ?_
        refine q_Wp.zld (i := m) rfl (rfl) rfl (by omega) (by decide) ?_
        show q_Wp X _ 80 (37, [some (.ref 34), some (.int (nI c)), some (.int (nI m)), z], [.int ((q_up Mi 47 m (q_b (ftm))).1 47 m), .int (nI m), .ref 48], q_up Mi 47 m (q_b (ftm))) _
        refine q_Wp.cv (c' := (37, [some (.ref 34), some (.int (nI c)), some (.int (nI m)), z], [.int (q_b ftm), .int (nI m), .ref 48], q_up Mi 47 m (q_b (ftm)))) (by first | rw [q_up_s Mi 47 m (q_b ftm)] | simp only [q_up_s Mi 47 m (q_b ftm)]) ?_
        refine q_Wp.zst (i := m) rfl (rfl) rfl (by omega) (by decide) (q_b01 _) ?_
        show q_Wp X _ 80 (38, [some (.ref 34), some (.int (nI c)), some (.int (nI m)), z], [], q_up (q_up Mi 47 m (q_b (ftm))) 48 m (q_b ftm)) _
        refine q_Wp.gn 3 (c' := (44, [some (.ref 34), some (.int (nI c)), some (.int (nI m)), z], [.int (nI m), .ref 47, .int (nI c)], q_up (q_up Mi 47 m (q_b (ftm))) 48 m (q_b ftm))) rfl ?_
        refine q_Wp.zld (i := m) rfl (rfl) rfl (by omega) (by decide) ?_
        show q_Wp X _ 80 (45, [some (.ref 34), some (.int (nI c)), some (.int (nI m)), z], [.int ((q_up Mi 47 m (q_b (ftm))).1 47 m), .int (nI c)], q_up (q_up Mi 47 m (q_b (ftm))) 48 m (q_b ftm)) _
        refine q_Wp.cv (c' := (45, [some (.ref 34), some (.int (nI c)), some (.int (nI m)), z], [.int (q_b ftm), .int (nI c)], q_up (q_up Mi 47 m (q_b (ftm))) 48 m (q_b ftm))) (by first | rw [q_up_s Mi 47 m (q_b ftm)] | simp only [q_up_s Mi 47 m (q_b ftm)]) ?_
        refine q_Wp.ge0 0 (b := ftm) (c1 := (52, [some (.ref 34), some (.int (nI c)), some (.int (nI m)), z], [.int (nI c)], q_up (q_up Mi 47 m (q_b (ftm))) 48 m (q_b ftm))) (c2 := (48, [some (.ref 34), some (.int (nI c)), some (.int (nI m)), z], [.int (nI c)], q_up (q_up Mi 47 m (q_b (ftm))) 48 m (q_b ftm))) rfl (fun g2 => ?_) (fun g2 => ?_)
        · -- ft
          refine q_Wp.gn 1 (c' := (54, [some (.ref 34), some (.int (nI c)), some (.int (nI m)), z], [.int ((nI c) + 0)], q_up (q_up Mi 47 m (q_b (ftm))) 48 m (q_b ftm))) rfl ?_
          refine q_Wp.cv (c' := (54, [some (.ref 34), some (.int (nI c)), some (.int (nI m)), z], [.int (nI (c + 0))], q_up (q_up Mi 47 m (q_b (ftm))) 48 m (q_b ftm))) (by first | rw [nI_add0] | simp only [nI_add0]) ?_
          refine q_Wp.gn 2 (c' := (57, [some (.ref 34), some (.int (nI (c + 0))), some (.int (nI m)), some (.int 0)], [], q_up (q_up Mi 47 m (q_b (ftm))) 48 m (q_b ftm))) rfl ?_
          refine key3 ((c + 0)) (by omega) (by rw [← hc, s_ct]; simp [← hftm, g2] <;> omega) (n + 1) 0 ftm _ (by omega) hI1 (fun r h1 h2 => ?_) (fun U h1 h2 => ?_) (fun U h1 h2 => ?_) (q_up_s _ _ _ _) (by rw [← hftm]; simp [s_any]) (by omega)
          · rw [q_up_ne _ _ _ h2, q_up_ne _ _ _ h1]; exact hI2 r h1 h2
          · rw [q_up_ne _ _ _ (by decide)]
            by_cases e : U = m
            · subst e; rw [q_up_s, hftm]
            · rw [q_up_o _ _ _ e]; exact hI3 U (by omega) h2
          · rw [q_up_o _ _ _ (by omega), q_up_ne _ _ _ (by decide)]; exact hI4 U (by omega) h2
        · -- ff
          refine q_Wp.gn 2 (c' := (54, [some (.ref 34), some (.int (nI c)), some (.int (nI m)), z], [.int ((nI c) + 1)], q_up (q_up Mi 47 m (q_b (ftm))) 48 m (q_b ftm))) rfl ?_
          refine q_Wp.cv (c' := (54, [some (.ref 34), some (.int (nI c)), some (.int (nI m)), z], [.int (nI (c + 1))], q_up (q_up Mi 47 m (q_b (ftm))) 48 m (q_b ftm))) (by first | rw [nI_1] | simp only [nI_1]) ?_
          refine q_Wp.gn 2 (c' := (57, [some (.ref 34), some (.int (nI (c + 1))), some (.int (nI m)), some (.int 0)], [], q_up (q_up Mi 47 m (q_b (ftm))) 48 m (q_b ftm))) rfl ?_
          refine key3 ((c + 1)) (by omega) (by rw [← hc, s_ct]; simp [← hftm, g2] <;> omega) (n + 1) 0 ftm _ (by omega) hI1 (fun r h1 h2 => ?_) (fun U h1 h2 => ?_) (fun U h1 h2 => ?_) (q_up_s _ _ _ _) (by rw [← hftm]; simp [s_any]) (by omega)
          · rw [q_up_ne _ _ _ h2, q_up_ne _ _ _ h1]; exact hI2 r h1 h2
          · rw [q_up_ne _ _ _ (by decide)]
            by_cases e : U = m
            · subst e; rw [q_up_s, hftm]
            · rw [q_up_o _ _ _ e]; exact hI3 U (by omega) h2
          · rw [q_up_o _ _ _ (by omega), q_up_ne _ _ _ (by decide)]; exact hI4 U (by omega) h2
  refine q_Wp.gn 4 (c' := (7, [some (.ref 34), some (.int 0), none, none], [.int (M.1 34 0), .int 1], M)) rfl ?_
  refine q_Wp.cv (c' := (7, [some (.ref 34), some (.int 0), none, none], [.int (nI n), .int 1], M)) (by first | rw [hB.1] | simp only [hB.1]) ?_
  refine q_Wp.gn 0 (c' := (8, [some (.ref 34), some (.int 0), none, none], [.int (1 <<< ((nI n) &&& 31))], M)) rfl ?_
  refine q_Wp.cv (c' := (8, [some (.ref 34), some (.int 0), none, none], [.int (nI (2 ^ n))], M)) (by first | rw [s_1shl n (by omega)] | simp only [s_1shl n (by omega)]) ?_
  refine q_Wp.gn 1 (c' := (10, [some (.ref 34), some (.int 0), none, none], [.int ((nI (2 ^ n)) - 1)], M)) rfl ?_
  refine q_Wp.cv (c' := (10, [some (.ref 34), some (.int 0), none, none], [.int ((nI (2 ^ n)) + (-1))], M)) (by first | rw [s_sub1] | simp only [s_sub1]) ?_
  refine q_Wp.gn 0 (c' := (11, [some (.ref 34), some (.int 0), some (.int ((nI (2 ^ n)) + (-1))), none], [], M)) rfl ?_
  exact key (2 ^ n) _ 0 M (Nat.le_refl _) rfl (fun _ _ _ => rfl) (fun U h1 h2 => absurd h1 (by omega)) (fun U h1 h2 => absurd h1 (by omega)) (by omega)

def ok_ask (t : Nat) (od : Nat → Nat) (A : Nat → Nat) : Prop := t ≤ 6 ∧ A 0 = 0 ∧ ∀ i, i < t → od i < 10 ∧ A (i + 1) = A i ||| 2 ^ od i
def m_ask (t : Nat) (od : Nat → Nat) (M : q_M) : Prop := M.1 34 15 = nI t ∧ ∀ i, i < t → M.1 44 i = nI (od i)
set_option maxRecDepth 10000 in
theorem c_askedSet (X : q_X) (d : Nat) {t : Nat} {od A : Nat → Nat} (hA : ok_ask t od A) (M : q_M) (hQ : m_ask t od M) : q_Ev X (d + 1) 82 [.ref 34] M (some (.int (nI (A t)))) (M) := by
  refine q_Ev.ofW rfl ?_
  show q_Wp X _ 82 (0, [some (.ref 34), none, none], [], M) _
  have ht := hA.1
  have key : ∀ (kz : Nat) (i : Nat), i ≤ t → t - i < kz → q_Wp X d 82 (4, [some (.ref 34), some (.int (nI (A i))), some (.int (nI i))], [], M) (fun r M' => r = some (.int (nI (A t))) ∧ M' = M) := by
    intro kz
    induction kz with
    | zero => intro i hi hm; exact absurd hm (by omega)
    | succ kz ih =>
      intro i hi hm
      refine q_Wp.gn 2 (c' := (9, [some (.ref 34), some (.int (nI (A i))), some (.int (nI i))], [.int (M.1 34 15), .int (nI i)], M)) rfl ?_
      refine q_Wp.cv (c' := (9, [some (.ref 34), some (.int (nI (A i))), some (.int (nI i))], [.int (nI t), .int (nI i)], M)) (by first | rw [hQ.1] | simp only [hQ.1]) ?_
      refine q_Wp.gd 0 ((nI t) ≤ (nI i)) (c1 := (29, [some (.ref 34), some (.int (nI (A i))), some (.int (nI i))], [], M)) (c2 := (12, [some (.ref 34), some (.int (nI (A i))), some (.int (nI i))], [], M)) rfl (fun g1 => ?_) (fun g1 => ?_)
      · -- t
        have g1 : t ≤ i := (nI_leI (a := t) (b := i) (by omega) (by omega)).mp g1
        refine q_Wp.gn 0 (c' := (30, [some (.ref 34), some (.int (nI (A i))), some (.int (nI i))], [.int (nI (A i))], M)) rfl ?_
        exact q_Wp.rt rfl rfl ⟨by (have e : i = t := by omega); subst e; rfl, by rfl⟩
      · -- f
        have g1 : ¬ t ≤ i := fun z => g1 ((nI_leI (a := t) (b := i) (by omega) (by omega)).mpr z)
        refine q_Wp.gn 4 (c' := (19, [some (.ref 34), some (.int (nI (A i))), some (.int (nI i))], [.int (nI i), .ref 44, .int 1, .int (nI (A i))], M)) rfl ?_
        refine q_Wp.ild (i := i) rfl (rfl) rfl (by omega) (by decide) ?_
        show q_Wp X _ 82 (20, [some (.ref 34), some (.int (nI (A i))), some (.int (nI i))], [.int (M.1 44 i), .int 1, .int (nI (A i))], M) _
        refine q_Wp.cv (c' := (20, [some (.ref 34), some (.int (nI (A i))), some (.int (nI i))], [.int (nI (od i)), .int 1, .int (nI (A i))], M)) (by first | rw [hQ.2 i (by omega)] | simp only [hQ.2 i (by omega)]) ?_
        refine q_Wp.gn 0 (c' := (21, [some (.ref 34), some (.int (nI (A i))), some (.int (nI i))], [.int (1 <<< ((nI (od i)) &&& 31)), .int (nI (A i))], M)) rfl ?_
        refine q_Wp.cv (c' := (21, [some (.ref 34), some (.int (nI (A i))), some (.int (nI i))], [.int (nI (2 ^ od i)), .int (nI (A i))], M)) (by first | rw [s_1shl _ (show od i < 31 by have := (hA.2.2 i (by omega)).1; omega)] | simp only [s_1shl _ (show od i < 31 by have := (hA.2.2 i (by omega)).1; omega)]) ?_
        refine q_Wp.gn 0 (c' := (22, [some (.ref 34), some (.int (nI (A i))), some (.int (nI i))], [.int ((nI (A i)) ||| (nI (2 ^ od i)))], M)) rfl ?_
        refine q_Wp.cv (c' := (22, [some (.ref 34), some (.int (nI (A i))), some (.int (nI i))], [.int (nI (A i ||| 2 ^ od i))], M)) (by first | rw [s_or] | simp only [s_or]) ?_
        refine q_Wp.gn 1 (c' := (26, [some (.ref 34), some (.int (nI (A i ||| 2 ^ od i))), some (.int ((nI i) + 1))], [], M)) rfl ?_
        refine q_Wp.cv (c' := (26, [some (.ref 34), some (.int (nI (A i ||| 2 ^ od i))), some (.int (nI (i + 1)))], [], M)) (by first | rw [nI_1] | simp only [nI_1]) ?_
        refine q_Wp.gn 0 (c' := (4, [some (.ref 34), some (.int (nI (A i ||| 2 ^ od i))), some (.int (nI (i + 1)))], [], M)) rfl ?_
        rw [← (hA.2.2 i (by omega)).2]
        exact ih (i + 1) (by omega) (by omega)
  refine q_Wp.gn 3 (c' := (4, [some (.ref 34), some (.int 0), some (.int 0)], [], M)) rfl ?_
  refine q_Wp.cv (c' := (4, [some (.ref 34), some (.int (nI (A 0))), some (.int (nI 0))], [], M)) (by rw [hA.2.1]; rfl) ?_
  exact key (t + 1) 0 (by omega) (by omega)

def s_do (fa : Nat → Nat → Nat) (S q o : Nat) : Bool := decide (fa o 0 = 1) && (S.testBit o && decide (fa o 1 = fa q 1))
def s_dp (n : Nat) (fa : Nat → Nat → Nat) (S q : Nat) : Bool := decide (fa q 0 = 1) && (!S.testBit q && s_any n (s_do fa S q))
def s_fst : Nat → (Nat → Bool) → Option Nat
  | 0, _ => none
  | i + 1, p => match s_fst i p with
    | some q => some q
    | none => if p i = true then some i else none
theorem s_fst_yes {p : Nat → Bool} {i : Nat} (h : s_fst i p = none) (hp : p i = true) : ∀ {n : Nat}, i < n → s_fst n p = some i
  | 0, h => absurd h (by omega)
  | n + 1, hn => by
    rw [s_fst]
    by_cases e : i = n
    · subst e; rw [h]; simp [hp]
    · rw [s_fst_yes h hp (show i < n by omega)]
theorem s_fst_lt {p : Nat → Bool} : ∀ {n q : Nat}, s_fst n p = some q → q < n
  | 0, q, h => by cases h
  | n + 1, q, h => by
    rw [s_fst] at h
    split at h
    · cases h
      rename_i h1
      have := s_fst_lt h1
      omega
    · split at h
      · cases h; omega
      · cases h
def s_om : Option Nat → Int32
  | none => -1
  | some q => nI q
def s_may (n : Nat) (fa : Nat → Nat → Nat) (cn : Nat → Bool) (S q : Nat) : Bool := !S.testBit q && (cn (S ||| 2 ^ q) && (match s_fst n (s_dp n fa S) with
  | none => true
  | some z => decide (z = q)))
set_option maxRecDepth 10000 in
theorem c_dueText (X : q_X) (d : Nat) {n S : Nat} {fa : Nat → Nat → Nat} {sh : Nat → Int32} (hO : ok_bank n fa) (hS : S < 1024) (M : q_M) (hB : m_bank n fa sh M) : q_Ev X (d + 2) 83 [.ref 34, .int (nI S)] M (some (.int (s_om (s_fst n (s_dp n fa S))))) (M) := by
  refine q_Ev.ofW rfl ?_
  show q_Wp X _ 83 (0, [some (.ref 34), some (.int (nI S)), none, none], [], M) _
  have hn := hO.1
  have key : ∀ (kz : Nat) (i : Nat) (z : Option Value), i ≤ n → s_fst i (s_dp n fa S) = none → n - i < kz → q_Wp X (d + 1) 83 (2, [some (.ref 34), some (.int (nI S)), some (.int (nI i)), z], [], M) (fun r M' => r = some (.int (s_om (s_fst n (s_dp n fa S)))) ∧ M' = M) := by
    intro kz
    induction kz with
    | zero => intro i z hi hF hm; exact absurd hm (by omega)
    | succ kz ih =>
      intro i z hi hF hm
      refine q_Wp.gn 2 (c' := (7, [some (.ref 34), some (.int (nI S)), some (.int (nI i)), z], [.int (M.1 34 0), .int (nI i)], M)) rfl ?_
      refine q_Wp.cv (c' := (7, [some (.ref 34), some (.int (nI S)), some (.int (nI i)), z], [.int (nI n), .int (nI i)], M)) (by first | rw [hB.1] | simp only [hB.1]) ?_
      refine q_Wp.gd 0 ((nI n) ≤ (nI i)) (c1 := (85, [some (.ref 34), some (.int (nI S)), some (.int (nI i)), z], [], M)) (c2 := (10, [some (.ref 34), some (.int (nI S)), some (.int (nI i)), z], [], M)) rfl (fun g1 => ?_) (fun g1 => ?_)
      · -- t
        have g1 : n ≤ i := (nI_leI (a := n) (b := i) (by omega) (by omega)).mp g1
        refine q_Wp.gn 0 (c' := (86, [some (.ref 34), some (.int (nI S)), some (.int (nI i)), z], [.int (-1)], M)) rfl ?_
        exact q_Wp.rt rfl rfl ⟨by (have e : i = n := by omega); subst e; rw [hF]; rfl, rfl⟩
      · -- f
        have g1 : ¬ n ≤ i := fun z => g1 ((nI_leI (a := n) (b := i) (by omega) (by omega)).mpr z)
        obtain ⟨e0, e1, -⟩ := hB.2 i (by omega)
        obtain ⟨o0, o1, -⟩ := hO.2 i (by omega)
        refine q_Wp.gn 2 (c' := (15, [some (.ref 34), some (.int (nI S)), some (.int (nI i)), z], [.int (nI i), .ref 35], M)) rfl ?_
        refine q_Wp.ild (i := i) rfl (rfl) rfl (by omega) (by decide) ?_
        show q_Wp X _ 83 (16, [some (.ref 34), some (.int (nI S)), some (.int (nI i)), z], [.int (M.1 35 i)], M) _
        refine q_Wp.cv (c' := (16, [some (.ref 34), some (.int (nI S)), some (.int (nI i)), z], [.int (nI (fa i 0))], M)) (by first | rw [e0] | simp only [e0]) ?_
        refine q_Wp.gd 1 (¬ (nI (fa i 0)) = 1) (c1 := (79, [some (.ref 34), some (.int (nI S)), some (.int (nI i)), z], [], M)) (c2 := (20, [some (.ref 34), some (.int (nI S)), some (.int (nI i)), z], [], M)) rfl (fun g2 => ?_) (fun g2 => ?_)
        · -- ft
          have g2 : ¬ (fa i 0) = 1 := fun z => g2 ((nI_eq (a := (fa i 0)) (b := 1) (by omega) (by omega)).mpr z)
          refine q_Wp.gn 0 (c' := (82, [some (.ref 34), some (.int (nI S)), some (.int ((nI i) + 1)), z], [], M)) rfl ?_
          refine q_Wp.cv (c' := (82, [some (.ref 34), some (.int (nI S)), some (.int (nI (i + 1))), z], [], M)) (by first | rw [nI_1] | simp only [nI_1]) ?_
          refine q_Wp.gn 0 (c' := (2, [some (.ref 34), some (.int (nI S)), some (.int (nI (i + 1))), z], [], M)) rfl ?_
          exact ih (i + 1) _ (by omega) (by rw [s_fst, hF, s_dp]; simp [g2]) (by omega)
        · -- ff
          have g2 : (fa i 0) = 1 := (nI_eq (a := (fa i 0)) (b := 1) (by omega) (by omega)).mp (Classical.byContradiction g2)
          refine q_Wp.gc 2 (mj := 77) (as := [.int (nI S), .int (nI i)]) (pc := 25) (ls := [some (.ref 34), some (.int (nI S)), some (.int (nI i)), z]) (st := []) (M := M) (r1 := some (.int (q_b (S.testBit i)))) (M1 := M) rfl (c_mhas X d (S := S) (q := i) hS (by omega) M) ?_
          show q_Wp X _ 83 (25, [some (.ref 34), some (.int (nI S)), some (.int (nI i)), z], [.int (q_b (S.testBit i))], M) _
          refine q_Wp.gn0 0 (b := (S.testBit i)) (c1 := (79, [some (.ref 34), some (.int (nI S)), some (.int (nI i)), z], [], M)) (c2 := (28, [some (.ref 34), some (.int (nI S)), some (.int (nI i)), z], [], M)) rfl (fun g3 => ?_) (fun g3 => ?_)
          · -- fft
            refine q_Wp.gn 0 (c' := (82, [some (.ref 34), some (.int (nI S)), some (.int ((nI i) + 1)), z], [], M)) rfl ?_
            refine q_Wp.cv (c' := (82, [some (.ref 34), some (.int (nI S)), some (.int (nI (i + 1))), z], [], M)) (by first | rw [nI_1] | simp only [nI_1]) ?_
            refine q_Wp.gn 0 (c' := (2, [some (.ref 34), some (.int (nI S)), some (.int (nI (i + 1))), z], [], M)) rfl ?_
            exact ih (i + 1) _ (by omega) (by rw [s_fst, hF, s_dp]; simp [g2, g3]) (by omega)
          · -- fff
            refine q_Wp.gn 1 (c' := (30, [some (.ref 34), some (.int (nI S)), some (.int (nI i)), some (.int 0)], [], M)) rfl ?_
            have hin : i < n := by omega
            have q1 : fa i 0 = 1 := g2
            have q2 : S.testBit i = false := g3
            have key3 : ∀ (kz : Nat) (j : Nat), j ≤ n → s_any j (s_do fa S i) = false → n - j < kz → q_Wp X (d + 1) 83 (30, [some (.ref 34), some (.int (nI S)), some (.int (nI i)), some (.int (nI j))], [], M) (fun r M' => r = some (.int (s_om (s_fst n (s_dp n fa S)))) ∧ M' = M) := by
              intro kz
              induction kz with
              | zero => intro j hj hA hm; exact absurd hm (by omega)
              | succ kz ih3 =>
                intro j hj hA hm
                refine q_Wp.gn 2 (c' := (35, [some (.ref 34), some (.int (nI S)), some (.int (nI i)), some (.int (nI j))], [.int (M.1 34 0), .int (nI j)], M)) rfl ?_
                refine q_Wp.cv (c' := (35, [some (.ref 34), some (.int (nI S)), some (.int (nI i)), some (.int (nI j))], [.int (nI n), .int (nI j)], M)) (by first | rw [hB.1] | simp only [hB.1]) ?_
                refine q_Wp.gd 0 ((nI n) ≤ (nI j)) (c1 := (79, [some (.ref 34), some (.int (nI S)), some (.int (nI i)), some (.int (nI j))], [], M)) (c2 := (38, [some (.ref 34), some (.int (nI S)), some (.int (nI i)), some (.int (nI j))], [], M)) rfl (fun j1 => ?_) (fun j1 => ?_)
                · -- t
                  have j1 : n ≤ j := (nI_leI (a := n) (b := j) (by omega) (by omega)).mp j1
                  refine q_Wp.gn 0 (c' := (82, [some (.ref 34), some (.int (nI S)), some (.int ((nI i) + 1)), some (.int (nI j))], [], M)) rfl ?_
                  refine q_Wp.cv (c' := (82, [some (.ref 34), some (.int (nI S)), some (.int (nI (i + 1))), some (.int (nI j))], [], M)) (by first | rw [nI_1] | simp only [nI_1]) ?_
                  refine q_Wp.gn 0 (c' := (2, [some (.ref 34), some (.int (nI S)), some (.int (nI (i + 1))), some (.int (nI j))], [], M)) rfl ?_
                  exact ih (i + 1) _ (by omega) (by rw [s_fst, hF, s_dp, show n = j by omega, hA]; simp) (by omega)
                · -- f
                  have j1 : ¬ n ≤ j := fun z => j1 ((nI_leI (a := n) (b := j) (by omega) (by omega)).mpr z)
                  obtain ⟨f0, f1, -⟩ := hB.2 j (by omega)
                  obtain ⟨p0, p1, -⟩ := hO.2 j (by omega)
                  refine q_Wp.gn 2 (c' := (43, [some (.ref 34), some (.int (nI S)), some (.int (nI i)), some (.int (nI j))], [.int (nI j), .ref 35], M)) rfl ?_
                  refine q_Wp.ild (i := j) rfl (rfl) rfl (by omega) (by decide) ?_
                  show q_Wp X _ 83 (44, [some (.ref 34), some (.int (nI S)), some (.int (nI i)), some (.int (nI j))], [.int (M.1 35 j)], M) _
                  refine q_Wp.cv (c' := (44, [some (.ref 34), some (.int (nI S)), some (.int (nI i)), some (.int (nI j))], [.int (nI (fa j 0))], M)) (by first | rw [f0] | simp only [f0]) ?_
                  refine q_Wp.gd 1 (¬ (nI (fa j 0)) = 1) (c1 := (73, [some (.ref 34), some (.int (nI S)), some (.int (nI i)), some (.int (nI j))], [], M)) (c2 := (48, [some (.ref 34), some (.int (nI S)), some (.int (nI i)), some (.int (nI j))], [], M)) rfl (fun j2 => ?_) (fun j2 => ?_)
                  · -- ft
                    have j2 : ¬ (fa j 0) = 1 := fun z => j2 ((nI_eq (a := (fa j 0)) (b := 1) (by omega) (by omega)).mpr z)
                    refine q_Wp.gn 0 (c' := (76, [some (.ref 34), some (.int (nI S)), some (.int (nI i)), some (.int ((nI j) + 1))], [], M)) rfl ?_
                    refine q_Wp.cv (c' := (76, [some (.ref 34), some (.int (nI S)), some (.int (nI i)), some (.int (nI (j + 1)))], [], M)) (by first | rw [nI_1] | simp only [nI_1]) ?_
                    refine q_Wp.gn 0 (c' := (30, [some (.ref 34), some (.int (nI S)), some (.int (nI i)), some (.int (nI (j + 1)))], [], M)) rfl ?_
                    exact ih3 (j + 1) (by omega) (by rw [s_any, hA, s_do]; simp [j2]) (by omega)
                  · -- ff
                    have j2 : (fa j 0) = 1 := (nI_eq (a := (fa j 0)) (b := 1) (by omega) (by omega)).mp (Classical.byContradiction j2)
                    refine q_Wp.gc 2 (mj := 77) (as := [.int (nI S), .int (nI j)]) (pc := 53) (ls := [some (.ref 34), some (.int (nI S)), some (.int (nI i)), some (.int (nI j))]) (st := []) (M := M) (r1 := some (.int (q_b (S.testBit j)))) (M1 := M) rfl (c_mhas X d (S := S) (q := j) hS (by omega) M) ?_
                    show q_Wp X _ 83 (53, [some (.ref 34), some (.int (nI S)), some (.int (nI i)), some (.int (nI j))], [.int (q_b (S.testBit j))], M) _
                    refine q_Wp.ge0 0 (b := (S.testBit j)) (c1 := (73, [some (.ref 34), some (.int (nI S)), some (.int (nI i)), some (.int (nI j))], [], M)) (c2 := (56, [some (.ref 34), some (.int (nI S)), some (.int (nI i)), some (.int (nI j))], [], M)) rfl (fun j3 => ?_) (fun j3 => ?_)
                    · -- fft
                      refine q_Wp.gn 0 (c' := (76, [some (.ref 34), some (.int (nI S)), some (.int (nI i)), some (.int ((nI j) + 1))], [], M)) rfl ?_
                      refine q_Wp.cv (c' := (76, [some (.ref 34), some (.int (nI S)), some (.int (nI i)), some (.int (nI (j + 1)))], [], M)) (by first | rw [nI_1] | simp only [nI_1]) ?_
                      refine q_Wp.gn 0 (c' := (30, [some (.ref 34), some (.int (nI S)), some (.int (nI i)), some (.int (nI (j + 1)))], [], M)) rfl ?_
                      exact ih3 (j + 1) (by omega) (by rw [s_any, hA, s_do]; simp [j2, j3]) (by omega)
                    · -- fff
                      refine q_Wp.gn 2 (c' := (61, [some (.ref 34), some (.int (nI S)), some (.int (nI i)), some (.int (nI j))], [.int (nI j), .ref 36], M)) rfl ?_
                      refine q_Wp.ild (i := j) rfl (rfl) rfl (by omega) (by decide) ?_
                      show q_Wp X _ 83 (62, [some (.ref 34), some (.int (nI S)), some (.int (nI i)), some (.int (nI j))], [.int (M.1 36 j)], M) _
                      refine q_Wp.cv (c' := (62, [some (.ref 34), some (.int (nI S)), some (.int (nI i)), some (.int (nI j))], [.int (nI (fa j 1))], M)) (by first | rw [f1] | simp only [f1]) ?_
                      refine q_Wp.gn 2 (c' := (67, [some (.ref 34), some (.int (nI S)), some (.int (nI i)), some (.int (nI j))], [.int (nI i), .ref 36, .int (nI (fa j 1))], M)) rfl ?_
                      refine q_Wp.ild (i := i) rfl (rfl) rfl (by omega) (by decide) ?_
                      show q_Wp X _ 83 (68, [some (.ref 34), some (.int (nI S)), some (.int (nI i)), some (.int (nI j))], [.int (M.1 36 i), .int (nI (fa j 1))], M) _
                      refine q_Wp.cv (c' := (68, [some (.ref 34), some (.int (nI S)), some (.int (nI i)), some (.int (nI j))], [.int (nI (fa i 1)), .int (nI (fa j 1))], M)) (by first | rw [e1] | simp only [e1]) ?_
                      refine q_Wp.gd 0 (¬ (nI (fa j 1)) = (nI (fa i 1))) (c1 := (73, [some (.ref 34), some (.int (nI S)), some (.int (nI i)), some (.int (nI j))], [], M)) (c2 := (71, [some (.ref 34), some (.int (nI S)), some (.int (nI i)), some (.int (nI j))], [], M)) rfl (fun j4 => ?_) (fun j4 => ?_)
                      · -- ffft
                        have j4 : ¬ (fa j 1) = (fa i 1) := fun z => j4 ((nI_eq (a := (fa j 1)) (b := (fa i 1)) (by omega) (by omega)).mpr z)
                        refine q_Wp.gn 0 (c' := (76, [some (.ref 34), some (.int (nI S)), some (.int (nI i)), some (.int ((nI j) + 1))], [], M)) rfl ?_
                        refine q_Wp.cv (c' := (76, [some (.ref 34), some (.int (nI S)), some (.int (nI i)), some (.int (nI (j + 1)))], [], M)) (by first | rw [nI_1] | simp only [nI_1]) ?_
                        refine q_Wp.gn 0 (c' := (30, [some (.ref 34), some (.int (nI S)), some (.int (nI i)), some (.int (nI (j + 1)))], [], M)) rfl ?_
                        exact ih3 (j + 1) (by omega) (by rw [s_any, hA, s_do]; simp [j2, j3, j4]) (by omega)
                      · -- ffff
                        have j4 : (fa j 1) = (fa i 1) := (nI_eq (a := (fa j 1)) (b := (fa i 1)) (by omega) (by omega)).mp (Classical.byContradiction j4)
                        refine q_Wp.gn 0 (c' := (72, [some (.ref 34), some (.int (nI S)), some (.int (nI i)), some (.int (nI j))], [.int (nI i)], M)) rfl ?_
                        exact q_Wp.rt rfl rfl ⟨by rw [s_fst_yes hF (by rw [s_dp, s_any_yes (i := j) (by rw [s_do]; simp [j2, j3, j4]) (show j < n by omega)]; simp [q1, q2]) hin]; rfl, rfl⟩
            exact key3 (n + 1) 0 (by omega) rfl (by omega)
  refine q_Wp.gn 1 (c' := (2, [some (.ref 34), some (.int (nI S)), some (.int 0), none], [], M)) rfl ?_
  exact key (n + 1) 0 _ (by omega) rfl (by omega)

set_option maxRecDepth 10000 in
theorem c_mayBe (X : q_X) (d : Nat) {n S q : Nat} {fa : Nat → Nat → Nat} {sh : Nat → Int32} {cn : Nat → Bool} (hO : ok_bank n fa) (hS : S < 2 ^ n) (hq : q < n) (M : q_M) (hB : m_bank n fa sh M) (hT : ∀ U, U < 2 ^ n → M.1 48 U = q_b (cn U)) : q_Ev X (d + 3) 84 [.ref 34, .int (nI q), .int (nI S)] M (some (.int (q_b (s_may n fa cn S q)))) (M) := by
  refine q_Ev.ofW rfl ?_
  show q_Wp X _ 84 (0, [some (.ref 34), some (.int (nI q)), some (.int (nI S)), none], [], M) _
  have hn := hO.1
  have hpn := s_pw hn
  have hS0 := hS
  have hS : S < 1024 := by omega
  have hso := s_orlt hS0 hq
  refine q_Wp.gc 2 (mj := 77) (as := [.int (nI S), .int (nI q)]) (pc := 5) (ls := [some (.ref 34), some (.int (nI q)), some (.int (nI S)), none]) (st := []) (M := M) (r1 := some (.int (q_b (S.testBit q)))) (M1 := M) rfl (c_mhas X (d + 1) (S := S) (q := q) hS (by omega) M) ?_
  show q_Wp X _ 84 (5, [some (.ref 34), some (.int (nI q)), some (.int (nI S)), none], [.int (q_b (S.testBit q))], M) _
  refine q_Wp.gn0 0 (b := (S.testBit q)) (c1 := (21, [some (.ref 34), some (.int (nI q)), some (.int (nI S)), none], [], M)) (c2 := (8, [some (.ref 34), some (.int (nI q)), some (.int (nI S)), none], [], M)) rfl (fun h1 => ?_) (fun h1 => ?_)
  · -- t
    refine q_Wp.gn 0 (c' := (22, [some (.ref 34), some (.int (nI q)), some (.int (nI S)), none], [.int 0], M)) rfl ?_
    exact q_Wp.rt rfl rfl ⟨by simp [s_may, q_b, h1], by rfl⟩
  · -- f
    refine q_Wp.gn 5 (c' := (16, [some (.ref 34), some (.int (nI q)), some (.int (nI S)), none], [.int (1 <<< ((nI q) &&& 31)), .int (nI S), .ref 48], M)) rfl ?_
    refine q_Wp.cv (c' := (16, [some (.ref 34), some (.int (nI q)), some (.int (nI S)), none], [.int (nI (2 ^ q)), .int (nI S), .ref 48], M)) (by first | rw [s_1shl q (by omega)] | simp only [s_1shl q (by omega)]) ?_
    refine q_Wp.gn 0 (c' := (17, [some (.ref 34), some (.int (nI q)), some (.int (nI S)), none], [.int ((nI S) ||| (nI (2 ^ q))), .ref 48], M)) rfl ?_
    refine q_Wp.cv (c' := (17, [some (.ref 34), some (.int (nI q)), some (.int (nI S)), none], [.int (nI (S ||| 2 ^ q)), .ref 48], M)) (by first | rw [s_or] | simp only [s_or]) ?_
    refine q_Wp.zld (i := (S ||| 2 ^ q)) rfl (rfl) rfl (by omega) (by decide) ?_
    show q_Wp X _ 84 (18, [some (.ref 34), some (.int (nI q)), some (.int (nI S)), none], [.int (M.1 48 (S ||| 2 ^ q))], M) _
    refine q_Wp.cv (c' := (18, [some (.ref 34), some (.int (nI q)), some (.int (nI S)), none], [.int (q_b (cn (S ||| 2 ^ q)))], M)) (by first | rw [hT _ hso] | simp only [hT _ hso]) ?_
    refine q_Wp.gn0 0 (b := (cn (S ||| 2 ^ q))) (c1 := (23, [some (.ref 34), some (.int (nI q)), some (.int (nI S)), none], [], M)) (c2 := (21, [some (.ref 34), some (.int (nI q)), some (.int (nI S)), none], [], M)) rfl (fun h2 => ?_) (fun h2 => ?_)
    · -- ft
      refine q_Wp.gc 2 (mj := 83) (as := [.ref 34, .int (nI S)]) (pc := 28) (ls := [some (.ref 34), some (.int (nI q)), some (.int (nI S)), none]) (st := []) (M := M) (r1 := some (.int (s_om (s_fst n (s_dp n fa S))))) (M1 := M) rfl (c_dueText X d (n := n) (S := S) (fa := fa) (sh := sh) hO hS M hB) ?_
      show q_Wp X _ 84 (28, [some (.ref 34), some (.int (nI q)), some (.int (nI S)), none], [.int (s_om (s_fst n (s_dp n fa S)))], M) _
      rcases hx : s_fst n (s_dp n fa S) with _ | zz
      · -- ftN
        show q_Wp X _ 84 (28, [some (.ref 34), some (.int (nI q)), some (.int (nI S)), none], [.int (-1)], M) _
        refine q_Wp.gn 4 (c' := (43, [some (.ref 34), some (.int (nI q)), some (.int (nI S)), some (.int (-1))], [.int 1], M)) rfl ?_
        exact q_Wp.rt rfl rfl ⟨by simp [s_may, q_b, h1, h2, hx], by rfl⟩
      · -- ftS
        have hzl := s_fst_lt hx
        show q_Wp X _ 84 (28, [some (.ref 34), some (.int (nI q)), some (.int (nI S)), none], [.int (nI zz)], M) _
        refine q_Wp.gd 2 ((nI zz) < 0) (c1 := (38, [some (.ref 34), some (.int (nI q)), some (.int (nI S)), some (.int (nI zz))], [], M)) (c2 := (33, [some (.ref 34), some (.int (nI q)), some (.int (nI S)), some (.int (nI zz))], [], M)) rfl (fun h3 => ?_) (fun h3 => ?_)
        · -- ftSt
          have h3 : zz < 0 := (nI_ltI (a := zz) (b := 0) (by omega) (by omega)).mp h3
          exact absurd h3 (by omega)
        · -- ftSf
          have h3 : ¬ zz < 0 := fun z => h3 ((nI_ltI (a := zz) (b := 0) (by omega) (by omega)).mpr z)
          refine q_Wp.gd 2 (¬ (nI zz) = (nI q)) (c1 := (42, [some (.ref 34), some (.int (nI q)), some (.int (nI S)), some (.int (nI zz))], [], M)) (c2 := (38, [some (.ref 34), some (.int (nI q)), some (.int (nI S)), some (.int (nI zz))], [], M)) rfl (fun h4 => ?_) (fun h4 => ?_)
          · -- ftSft
            have h4 : ¬ zz = q := fun z => h4 ((nI_eq (a := zz) (b := q) (by omega) (by omega)).mpr z)
            refine q_Wp.gn 0 (c' := (43, [some (.ref 34), some (.int (nI q)), some (.int (nI S)), some (.int (nI zz))], [.int 0], M)) rfl ?_
            exact q_Wp.rt rfl rfl ⟨by simp [s_may, q_b, h1, h2, h3, h4, hx], by rfl⟩
          · -- ftSff
            have h4 : zz = q := (nI_eq (a := zz) (b := q) (by omega) (by omega)).mp (Classical.byContradiction h4)
            refine q_Wp.gn 1 (c' := (43, [some (.ref 34), some (.int (nI q)), some (.int (nI S)), some (.int (nI zz))], [.int 1], M)) rfl ?_
            exact q_Wp.rt rfl rfl ⟨by simp [s_may, q_b, h1, h2, h3, h4, hx], by rfl⟩
    · -- ff
      refine q_Wp.gn 0 (c' := (22, [some (.ref 34), some (.int (nI q)), some (.int (nI S)), none], [.int 0], M)) rfl ?_
      exact q_Wp.rt rfl rfl ⟨by simp [s_may, q_b, h1, h2], by rfl⟩

set_option maxRecDepth 10000 in
theorem c_mayMany (X : q_X) (d : Nat) {n t : Nat} {fa : Nat → Nat → Nat} {sh : Nat → Int32} {od A : Nat → Nat} {cn : Nat → Bool} (hO : ok_bank n fa) (hA : ok_ask t od A) (hS : A t < 2 ^ n) (M : q_M) (hB : m_bank n fa sh M) (hT : ∀ U, U < 2 ^ n → M.1 48 U = q_b (cn U)) (hQ : m_ask t od M) : q_Ev X (d + 4) 85 [.ref 34] M (some (.int (nI (s_ct n (s_may n fa cn (A t)))))) (M) := by
  refine q_Ev.ofW rfl ?_
  show q_Wp X _ 85 (0, [some (.ref 34), none, none, none], [], M) _
  have hn := hO.1
  have key : ∀ (kz : Nat) (i c : Nat), i ≤ n → c = s_ct i (s_may n fa cn (A t)) → n - i < kz → q_Wp X (d + 3) 85 (9, [some (.ref 34), some (.int (nI (A t))), some (.int (nI c)), some (.int (nI i))], [], M) (fun r M' => r = some (.int (nI (s_ct n (s_may n fa cn (A t))))) ∧ M' = M) := by
    intro kz
    induction kz with
    | zero => intro i c hi hc hm; exact absurd hm (by omega)
    | succ kz ih =>
      intro i c hi hc hm
      refine q_Wp.gn 2 (c' := (14, [some (.ref 34), some (.int (nI (A t))), some (.int (nI c)), some (.int (nI i))], [.int (M.1 34 0), .int (nI i)], M)) rfl ?_
      refine q_Wp.cv (c' := (14, [some (.ref 34), some (.int (nI (A t))), some (.int (nI c)), some (.int (nI i))], [.int (nI n), .int (nI i)], M)) (by first | rw [hB.1] | simp only [hB.1]) ?_
      refine q_Wp.gd 0 ((nI n) ≤ (nI i)) (c1 := (40, [some (.ref 34), some (.int (nI (A t))), some (.int (nI c)), some (.int (nI i))], [], M)) (c2 := (17, [some (.ref 34), some (.int (nI (A t))), some (.int (nI c)), some (.int (nI i))], [], M)) rfl (fun g1 => ?_) (fun g1 => ?_)
      · -- t
        have g1 : n ≤ i := (nI_leI (a := n) (b := i) (by omega) (by omega)).mp g1
        refine q_Wp.gn 0 (c' := (41, [some (.ref 34), some (.int (nI (A t))), some (.int (nI c)), some (.int (nI i))], [.int (nI c)], M)) rfl ?_
        exact q_Wp.rt rfl rfl ⟨by (have e : i = n := by omega); subst e; rw [hc], by rfl⟩
      · -- f
        have g1 : ¬ n ≤ i := fun z => g1 ((nI_leI (a := n) (b := i) (by omega) (by omega)).mpr z)
        refine q_Wp.gc 4 (mj := 84) (as := [.ref 34, .int (nI i), .int (nI (A t))]) (pc := 24) (ls := [some (.ref 34), some (.int (nI (A t))), some (.int (nI c)), some (.int (nI i))]) (st := [.int (nI c)]) (M := M) (r1 := some (.int (q_b (s_may n fa cn (A t) i)))) (M1 := M) rfl (c_mayBe X d (n := n) (S := (A t)) (q := i) (fa := fa) (sh := sh) (cn := cn) hO hS (by omega) M hB hT) ?_
        show q_Wp X _ 85 (24, [some (.ref 34), some (.int (nI (A t))), some (.int (nI c)), some (.int (nI i))], [.int (q_b (s_may n fa cn (A t) i)), .int (nI c)], M) _
        refine q_Wp.ge0 0 (b := (s_may n fa cn (A t) i)) (c1 := (31, [some (.ref 34), some (.int (nI (A t))), some (.int (nI c)), some (.int (nI i))], [.int (nI c)], M)) (c2 := (27, [some (.ref 34), some (.int (nI (A t))), some (.int (nI c)), some (.int (nI i))], [.int (nI c)], M)) rfl (fun g2 => ?_) (fun g2 => ?_)
        · -- ft
          refine q_Wp.gn 1 (c' := (33, [some (.ref 34), some (.int (nI (A t))), some (.int (nI c)), some (.int (nI i))], [.int ((nI c) + 0)], M)) rfl ?_
          refine q_Wp.cv (c' := (33, [some (.ref 34), some (.int (nI (A t))), some (.int (nI c)), some (.int (nI i))], [.int (nI (c + 0))], M)) (by first | rw [nI_add0] | simp only [nI_add0]) ?_
          refine q_Wp.gn 1 (c' := (37, [some (.ref 34), some (.int (nI (A t))), some (.int (nI (c + 0))), some (.int ((nI i) + 1))], [], M)) rfl ?_
          refine q_Wp.cv (c' := (37, [some (.ref 34), some (.int (nI (A t))), some (.int (nI (c + 0))), some (.int (nI (i + 1)))], [], M)) (by first | rw [nI_1] | simp only [nI_1]) ?_
          refine q_Wp.gn 0 (c' := (9, [some (.ref 34), some (.int (nI (A t))), some (.int (nI (c + 0))), some (.int (nI (i + 1)))], [], M)) rfl ?_
          exact ih (i + 1) ((c + 0)) (by omega) (by rw [s_ct, ← hc]; simp [g2]) (by omega)
        · -- ff
          refine q_Wp.gn 2 (c' := (33, [some (.ref 34), some (.int (nI (A t))), some (.int (nI c)), some (.int (nI i))], [.int ((nI c) + 1)], M)) rfl ?_
          refine q_Wp.cv (c' := (33, [some (.ref 34), some (.int (nI (A t))), some (.int (nI c)), some (.int (nI i))], [.int (nI (c + 1))], M)) (by first | rw [nI_1] | simp only [nI_1]) ?_
          refine q_Wp.gn 1 (c' := (37, [some (.ref 34), some (.int (nI (A t))), some (.int (nI (c + 1))), some (.int ((nI i) + 1))], [], M)) rfl ?_
          refine q_Wp.cv (c' := (37, [some (.ref 34), some (.int (nI (A t))), some (.int (nI (c + 1))), some (.int (nI (i + 1)))], [], M)) (by first | rw [nI_1] | simp only [nI_1]) ?_
          refine q_Wp.gn 0 (c' := (9, [some (.ref 34), some (.int (nI (A t))), some (.int (nI (c + 1))), some (.int (nI (i + 1)))], [], M)) rfl ?_
          exact ih (i + 1) ((c + 1)) (by omega) (by rw [s_ct, ← hc]; simp [g2]) (by omega)
  refine q_Wp.gc 1 (mj := 82) (as := [.ref 34]) (pc := 4) (ls := [some (.ref 34), none, none, none]) (st := []) (M := M) (r1 := some (.int (nI (A t)))) (M1 := M) rfl (c_askedSet X (d + 2) (t := t) (od := od) (A := A) hA M hQ) ?_
  show q_Wp X _ 85 (4, [some (.ref 34), none, none, none], [.int (nI (A t))], M) _
  refine q_Wp.gn 4 (c' := (9, [some (.ref 34), some (.int (nI (A t))), some (.int 0), some (.int 0)], [], M)) rfl ?_
  exact key (n + 1) 0 0 (by omega) rfl (by omega)

set_option maxRecDepth 10000 in
theorem c_doneNow (X : q_X) (d : Nat) {n t : Nat} {fa : Nat → Nat → Nat} {sh : Nat → Int32} {od A : Nat → Nat} {ft cn : Nat → Bool} (hO : ok_bank n fa) (hA : ok_ask t od A) (hS : A t < 2 ^ n) (M : q_M) (hB : m_bank n fa sh M) (hF : ∀ U, U < 2 ^ n → M.1 47 U = q_b (ft U)) (hT : ∀ U, U < 2 ^ n → M.1 48 U = q_b (cn U)) (hQ : m_ask t od M) : q_Ev X (d + 5) 94 [.ref 34] M (some (.int (s_done (ft (A t)) (s_sureM (s_row M t) (M.1 34 10) (M.1 34 11)) (s_ct n (s_may n fa cn (A t)))))) (M) := by
  refine q_Ev.ofW rfl ?_
  show q_Wp X _ 94 (0, [some (.ref 34)], [], M) _
  have hn := hO.1
  have hpn := s_pw hn
  have ht := hA.1
  have hcl := s_ct_le (s_may n fa cn (A t)) n
  refine q_Wp.gc 3 (mj := 82) (as := [.ref 34]) (pc := 8) (ls := [some (.ref 34)]) (st := [.ref 47]) (M := M) (r1 := some (.int (nI (A t)))) (M1 := M) rfl (c_askedSet X (d + 3) (t := t) (od := od) (A := A) hA M hQ) ?_
  show q_Wp X _ 94 (8, [some (.ref 34)], [.int (nI (A t)), .ref 47], M) _
  refine q_Wp.zld (i := (A t)) rfl (rfl) rfl (by omega) (by decide) ?_
  show q_Wp X _ 94 (9, [some (.ref 34)], [.int (M.1 47 (A t))], M) _
  refine q_Wp.cv (c' := (9, [some (.ref 34)], [.int (q_b (ft (A t)))], M)) (by first | rw [hF _ hS] | simp only [hF _ hS]) ?_
  refine q_Wp.gn0 0 (b := (ft (A t))) (c1 := (14, [some (.ref 34)], [], M)) (c2 := (12, [some (.ref 34)], [], M)) rfl (fun h1 => ?_) (fun h1 => ?_)
  · -- t
    refine q_Wp.gn 2 (c' := (19, [some (.ref 34)], [.int (M.1 34 15), .ref 34], M)) rfl ?_
    refine q_Wp.cv (c' := (19, [some (.ref 34)], [.int (nI t), .ref 34], M)) (by first | rw [hQ.1] | simp only [hQ.1]) ?_
    refine q_Wp.gc 0 (mj := 89) (as := [.ref 34, .int (nI t)]) (pc := 22) (ls := [some (.ref 34)]) (st := []) (M := M) (r1 := some (.int (q_b (s_sureM (s_row M t) (M.1 34 10) (M.1 34 11))))) (M1 := M) rfl (c_isSure X (d + 2) (r := t) (by omega) M) ?_
    show q_Wp X _ 94 (22, [some (.ref 34)], [.int (q_b (s_sureM (s_row M t) (M.1 34 10) (M.1 34 11)))], M) _
    refine q_Wp.ge0 0 (b := (s_sureM (s_row M t) (M.1 34 10) (M.1 34 11))) (c1 := (29, [some (.ref 34)], [], M)) (c2 := (25, [some (.ref 34)], [], M)) rfl (fun h2 => ?_) (fun h2 => ?_)
    · -- tt
      refine q_Wp.gc 1 (mj := 85) (as := [.ref 34]) (pc := 33) (ls := [some (.ref 34)]) (st := []) (M := M) (r1 := some (.int (nI (s_ct n (s_may n fa cn (A t)))))) (M1 := M) rfl (c_mayMany X d (n := n) (t := t) (fa := fa) (sh := sh) (od := od) (A := A) (cn := cn) hO hA hS M hB hT hQ) ?_
      show q_Wp X _ 94 (33, [some (.ref 34)], [.int (nI (s_ct n (s_may n fa cn (A t))))], M) _
      refine q_Wp.gd 0 (¬ (nI (s_ct n (s_may n fa cn (A t)))) = 0) (c1 := (40, [some (.ref 34)], [], M)) (c2 := (36, [some (.ref 34)], [], M)) rfl (fun h3 => ?_) (fun h3 => ?_)
      · -- ttt
        have h3 : ¬ (s_ct n (s_may n fa cn (A t))) = 0 := fun z => h3 ((nI_eq (a := (s_ct n (s_may n fa cn (A t)))) (b := 0) (by omega) (by omega)).mpr z)
        refine q_Wp.gn 0 (c' := (41, [some (.ref 34)], [.int 0], M)) rfl ?_
        exact q_Wp.rt rfl rfl ⟨by simp [s_done, *], by rfl⟩
      · -- ttf
        have h3 : (s_ct n (s_may n fa cn (A t))) = 0 := (nI_eq (a := (s_ct n (s_may n fa cn (A t)))) (b := 0) (by omega) (by omega)).mp (Classical.byContradiction h3)
        refine q_Wp.gn 1 (c' := (41, [some (.ref 34)], [.int 2], M)) rfl ?_
        exact q_Wp.rt rfl rfl ⟨by simp [s_done, *], by rfl⟩
    · -- tf
      refine q_Wp.gn 1 (c' := (41, [some (.ref 34)], [.int 1], M)) rfl ?_
      exact q_Wp.rt rfl rfl ⟨by simp [s_done, *], by rfl⟩
  · -- f
    refine q_Wp.gn 0 (c' := (13, [some (.ref 34)], [.int 0], M)) rfl ?_
    exact q_Wp.rt rfl rfl ⟨by simp [s_done, *], by rfl⟩

