/-! Contracts: reach of the model (by program: wip/whole/c24.py) -/
theorem s_facM_N {n : Nat} {fa : Nat → Nat → Nat} {sh : Nat → Int32} {M : q_M} (hO : ok_bank n fa) (hB : m_bank n fa sh M) {q s : Nat} (hq : q < n) (hs : s < 6) (rg : Bool) : s_facM (M.1 35 q) (M.1 40 (6 * q + s)) (q_b rg) = nI (n_fac fa q rg s) := by
  have h1 := hB.2 q hq
  have h2 := hO.2 q hq
  have h3 := h2.2.2.2.2.2 s hs
  unfold s_facM n_fac
  rw [h1.1, h1.2.2.2.2.2 s hs]
  by_cases e : fa q 0 = 4
  · rw [if_pos e, e]; rfl
  · rw [if_neg e, if_neg (show ¬ nI (fa q 0) = 4 from fun z => e ((nI_eq (a := fa q 0) (b := 4) (by omega) (by decide)).mp z))]
    cases rg with
    | true => rw [if_neg (show ¬ q_b true = 0 by decide)]; rfl
    | false => rw [if_pos (show q_b false = 0 from rfl)]; exact pk_sub (a := 5) (b := fa q (5 + s)) (by omega)
theorem s_max_c {f g : Nat → Int32} : ∀ {i : Nat}, i ≤ 6 → (∀ s, s < 6 → f s = g s) → s_max f i = s_max g i
  | 0, _, _ => rfl
  | i + 1, hi, h => by rw [s_max, s_max, s_max_c (i := i) (by omega) h, h i (by omega)]
theorem s_sureM_c {f g : Nat → Int32} {a b : Int32} (h : ∀ s, s < 6 → f s = g s) : s_sureM f a b = s_sureM g a b := by
  unfold s_sureM
  rw [s_max_c (i := 6) (by decide) h, s_sumL_c h]
def s_sureMN (u : Nat → Nat) (a b : Int32) : Bool := s_sureM (fun s => nI (u s)) a b
def s_mr (n : Nat) (fa : Nat → Nat → Nat) (cn : Nat → Bool) (a b : Int32) : Nat → Nat → (Nat → Nat) → Bool
  | 0, _, u => s_sureMN u a b
  | k + 1, S, u => s_sureMN u a b || s_any n (fun q => s_may n fa cn S q && (s_mr n fa cn a b k (S ||| 2 ^ q) (n_mul u fa q true) && s_mr n fa cn a b k (S ||| 2 ^ q) (n_mul u fa q false)))
def s_mq (n : Nat) (fa : Nat → Nat → Nat) (cn : Nat → Bool) (a b : Int32) (k S : Nat) (u : Nat → Nat) (q : Nat) : Bool := s_may n fa cn S q && (s_mr n fa cn a b k (S ||| 2 ^ q) (n_mul u fa q true) && s_mr n fa cn a b k (S ||| 2 ^ q) (n_mul u fa q false))
theorem s_any_mono {p : Nat → Bool} {i : Nat} (h : s_any i p = true) : ∀ {n : Nat}, i ≤ n → s_any n p = true
  | 0, hn => by rw [show i = 0 by omega] at h; exact h
  | n + 1, hn => by
    by_cases e : i = n + 1
    · subst e; exact h
    · rw [s_any, s_any_mono h (show i ≤ n by omega), Bool.true_or]
set_option maxRecDepth 10000 in
theorem c_reachesOne (X : q_X) (d : Nat) {n S row : Nat} {u : Nat → Nat} {fa : Nat → Nat → Nat} {sh : Nat → Int32} {cn : Nat → Bool} {a b : Int32} (hO : ok_bank n fa) (hS : S < 2 ^ n) (hr : row ≤ 8) (M : q_M) (hB : m_bank n fa sh M) (hT : ∀ U, U < 2 ^ n → M.1 48 U = q_b (cn U)) (hU : ∀ s, s < 6 → M.1 46 (6 * row + s) = nI (u s)) (h10 : M.1 34 10 = a) (h11 : M.1 34 11 = b) : q_Ep X (d + 4) 105 [.ref 34, .int (nI S), .int (nI row)] M (fun r M' => r = some (.int (q_b (s_mr n fa cn a b 1 S u))) ∧ M'.2 = M.2 ∧ (∀ r, r ≠ 46 → M'.1 r = M.1 r) ∧ ∀ j, j < 6 * row + 6 → M'.1 46 j = M.1 46 j) := by
  refine q_Ep.ofW rfl ?_
  show q_Wp X _ 105 (0, [some (.ref 34), some (.int (nI S)), some (.int (nI row)), none, none, none], [], M) _
  have hn := hO.1
  have hpn := s_pw hn
  have hsu : s_sureM (s_row M row) (M.1 34 10) (M.1 34 11) = s_sureMN u a b := by rw [h10, h11]; exact s_sureM_c hU
  have key : ∀ (kz : Nat) (i : Nat) (is : Bool) (z : Option Value) (Mi : q_M), i ≤ n → Mi.2 = M.2 → (∀ r, r ≠ 46 → Mi.1 r = M.1 r) → (∀ j, j < 6 * row + 6 → Mi.1 46 j = M.1 46 j) → is = (s_sureMN u a b || s_any i (s_mq n fa cn a b 0 S u)) → n - i < kz → q_Wp X (d + 3) 105 (9, [some (.ref 34), some (.int (nI S)), some (.int (nI row)), some (.int (q_b is)), some (.int (nI i)), z], [], Mi) (fun r M' => r = some (.int (q_b (s_mr n fa cn a b 1 S u))) ∧ M'.2 = M.2 ∧ (∀ r, r ≠ 46 → M'.1 r = M.1 r) ∧ ∀ j, j < 6 * row + 6 → M'.1 46 j = M.1 46 j) := by
    intro kz
    induction kz with
    | zero => intro i is z Mi hi hI1 hI2 hI3 his hm; exact absurd hm (by omega)
    | succ kz ih =>
      intro i is z Mi hi hI1 hI2 hI3 his hm
      have hBi : m_bank n fa sh Mi := hB.keep (congrFun (hI2 34 (by decide)) 0) (fun r h1 h2 => hI2 r (by omega))
      have hTi : ∀ U, U < 2 ^ n → Mi.1 48 U = q_b (cn U) := fun U hU => by rw [hI2 48 (by decide)]; exact hT U hU
      refine q_Wp.gn 2 (c' := (15, [some (.ref 34), some (.int (nI S)), some (.int (nI row)), some (.int (q_b is)), some (.int (nI i)), z], [.int (Mi.1 34 0), .int (nI i)], Mi)) rfl ?_
      refine q_Wp.cv (c' := (15, [some (.ref 34), some (.int (nI S)), some (.int (nI row)), some (.int (q_b is)), some (.int (nI i)), z], [.int (nI n), .int (nI i)], Mi)) (by first | rw [hBi.1] | simp only [hBi.1]) ?_
      refine q_Wp.gd 0 ((nI n) ≤ (nI i)) (c1 := (90, [some (.ref 34), some (.int (nI S)), some (.int (nI row)), some (.int (q_b is)), some (.int (nI i)), z], [], Mi)) (c2 := (18, [some (.ref 34), some (.int (nI S)), some (.int (nI row)), some (.int (q_b is)), some (.int (nI i)), z], [], Mi)) rfl (fun g1 => ?_) (fun g1 => ?_)
      · -- t
        have g1 : n ≤ i := (nI_leI (a := n) (b := i) (by omega) (by omega)).mp g1
        refine q_Wp.gn 0 (c' := (91, [some (.ref 34), some (.int (nI S)), some (.int (nI row)), some (.int (q_b is)), some (.int (nI i)), z], [.int (q_b is)], Mi)) rfl ?_
        refine q_Wp.zr rfl rfl (q_b01 _) ?_
        (have e : i = n := by omega)
        subst e
        exact ⟨by rw [his]; rfl, hI1, hI2, hI3⟩
      · -- f
        have g1 : ¬ n ≤ i := fun z => g1 ((nI_leI (a := n) (b := i) (by omega) (by omega)).mpr z)
        refine q_Wp.gn0 1 (b := is) (c1 := (90, [some (.ref 34), some (.int (nI S)), some (.int (nI row)), some (.int (q_b is)), some (.int (nI i)), z], [], Mi)) (c2 := (22, [some (.ref 34), some (.int (nI S)), some (.int (nI row)), some (.int (q_b is)), some (.int (nI i)), z], [], Mi)) rfl (fun g2 => ?_) (fun g2 => ?_)
        · -- ft
          refine q_Wp.gn 0 (c' := (91, [some (.ref 34), some (.int (nI S)), some (.int (nI row)), some (.int (q_b is)), some (.int (nI i)), z], [.int (q_b is)], Mi)) rfl ?_
          exact q_Wp.zr rfl rfl (q_b01 _) ⟨by rw [show s_mr n fa cn a b 1 S u = is by rw [g2] at his ⊢; rcases Bool.or_eq_true_iff.mp his.symm with h | h; exact Bool.or_eq_true_iff.mpr (Or.inl h); exact Bool.or_eq_true_iff.mpr (Or.inr (s_any_mono h hi))], hI1, hI2, hI3⟩
        · -- ff
          refine q_Wp.gc 3 (mj := 84) (as := [.ref 34, .int (nI i), .int (nI S)]) (pc := 29) (ls := [some (.ref 34), some (.int (nI S)), some (.int (nI row)), some (.int (q_b is)), some (.int (nI i)), z]) (st := []) (M := Mi) (r1 := some (.int (q_b (s_may n fa cn S i)))) (M1 := Mi) rfl (c_mayBe X d (n := n) (S := S) (q := i) (fa := fa) (sh := sh) (cn := cn) hO hS (by omega) Mi hBi hTi) ?_
          show q_Wp X _ 105 (29, [some (.ref 34), some (.int (nI S)), some (.int (nI row)), some (.int (q_b is)), some (.int (nI i)), z], [.int (q_b (s_may n fa cn S i))], Mi) _
          refine q_Wp.ge0 0 (b := (s_may n fa cn S i)) (c1 := (84, [some (.ref 34), some (.int (nI S)), some (.int (nI row)), some (.int (q_b is)), some (.int (nI i)), z], [], Mi)) (c2 := (32, [some (.ref 34), some (.int (nI S)), some (.int (nI row)), some (.int (q_b is)), some (.int (nI i)), z], [], Mi)) rfl (fun g3 => ?_) (fun g3 => ?_)
          · -- fft
            refine q_Wp.gn 0 (c' := (87, [some (.ref 34), some (.int (nI S)), some (.int (nI row)), some (.int (q_b is)), some (.int ((nI i) + 1)), z], [], Mi)) rfl ?_
            refine q_Wp.cv (c' := (87, [some (.ref 34), some (.int (nI S)), some (.int (nI row)), some (.int (q_b is)), some (.int (nI (i + 1))), z], [], Mi)) (by first | rw [nI_1] | simp only [nI_1]) ?_
            refine q_Wp.gn 0 (c' := (9, [some (.ref 34), some (.int (nI S)), some (.int (nI row)), some (.int (q_b is)), some (.int (nI (i + 1))), z], [], Mi)) rfl ?_
            exact ih (i + 1) is _ Mi (by omega) hI1 hI2 hI3 (by rw [s_any, ← Bool.or_assoc, ← his, g2, s_mq, g3]; rfl) (by omega)
          · -- fff
            refine q_Wp.gn 4 (c' := (37, [some (.ref 34), some (.int (nI S)), some (.int (nI row)), some (.int (q_b is)), some (.int (nI i)), z], [.int ((nI row) + 1), .int (nI row), .ref 34], Mi)) rfl ?_
            refine q_Wp.cv (c' := (37, [some (.ref 34), some (.int (nI S)), some (.int (nI row)), some (.int (q_b is)), some (.int (nI i)), z], [.int (nI (row + 1)), .int (nI row), .ref 34], Mi)) (by first | rw [nI_1] | simp only [nI_1]) ?_
            refine q_Wp.gp 2 (mj := 90) (as := [.ref 34, .int (nI row), .int (nI (row + 1)), .int (nI i), .int 1]) (pc := 43) (ls := [some (.ref 34), some (.int (nI S)), some (.int (nI row)), some (.int (q_b is)), some (.int (nI i)), z]) (st := []) (M := Mi) rfl (c_weighs X (d + 2) (a := row) (b := row + 1) (k := i) (by omega) (by omega) (by omega) (by omega) 1 Mi) (fun r4 M5 hp6 => ?_)
            obtain ⟨rfl, hA, hBx, hC, hD⟩ := hp6
            have f1 : ∀ r, r ≠ 46 → M5.1 r = M.1 r := fun r hr => (hBx r hr).trans (hI2 r hr)
            have f2 : ∀ j, j < 6 * row + 6 → M5.1 46 j = M.1 46 j := fun j hj => (hC j (by omega)).trans (hI3 j hj)
            have f3 : M5.2 = M.2 := hA.trans hI1
            have hU1 : ∀ s, s < 6 → M5.1 46 (6 * (row + 1) + s) = nI (n_mul u fa i true s) := fun s hs => by rw [hD s hs, hI3 (6 * row + s) (by omega), hU s hs]; exact (congrArg _ (s_facM_N hO hBi (show i < n by omega) hs true)).trans (pk_mul _ _)
            show q_Wp X _ 105 (43, [some (.ref 34), some (.int (nI S)), some (.int (nI row)), some (.int (q_b is)), some (.int (nI i)), z], [], M5) _
            refine q_Wp.gn 3 (c' := (47, [some (.ref 34), some (.int (nI S)), some (.int (nI row)), some (.int (q_b is)), some (.int (nI i)), z], [.int ((nI row) + 1), .ref 34], M5)) rfl ?_
            refine q_Wp.cv (c' := (47, [some (.ref 34), some (.int (nI S)), some (.int (nI row)), some (.int (q_b is)), some (.int (nI i)), z], [.int (nI (row + 1)), .ref 34], M5)) (by first | rw [nI_1] | simp only [nI_1]) ?_
            refine q_Wp.gc 0 (mj := 89) (as := [.ref 34, .int (nI (row + 1))]) (pc := 50) (ls := [some (.ref 34), some (.int (nI S)), some (.int (nI row)), some (.int (q_b is)), some (.int (nI i)), z]) (st := []) (M := M5) (r1 := some (.int (q_b (s_sureM (s_row M5 (row + 1)) (M5.1 34 10) (M5.1 34 11))))) (M1 := M5) rfl (c_isSure X (d + 1) (r := row + 1) (by omega) M5) ?_
            show q_Wp X _ 105 (50, [some (.ref 34), some (.int (nI S)), some (.int (nI row)), some (.int (q_b is)), some (.int (nI i)), z], [.int (q_b (s_sureM (s_row M5 (row + 1)) (M5.1 34 10) (M5.1 34 11)))], M5) _
            have hBc : m_bank n fa sh M5 := hB.keep (congrFun (f1 34 (by decide)) 0) (fun r h1 h2 => f1 r (by omega))
            have f4 := f1
            have f5 := f2
            have f6 := f3
            refine q_Wp.cv (c' := (50, [some (.ref 34), some (.int (nI S)), some (.int (nI row)), some (.int (q_b is)), some (.int (nI i)), z], [.int (q_b (s_mr n fa cn a b 0 (S ||| 2 ^ i) (n_mul u fa i true)))], M5)) (by first | rw [(show s_sureM (s_row M5 (row + 1)) (M5.1 34 10) (M5.1 34 11) = s_mr n fa cn a b 0 (S ||| 2 ^ i) (n_mul u fa i true) by rw [f1 34 (by decide), h10, h11]; exact s_sureM_c hU1)] | simp only [(show s_sureM (s_row M5 (row + 1)) (M5.1 34 10) (M5.1 34 11) = s_mr n fa cn a b 0 (S ||| 2 ^ i) (n_mul u fa i true) by rw [f1 34 (by decide), h10, h11]; exact s_sureM_c hU1)]) ?_
            refine q_Wp.gn 5 (c' := (57, [some (.ref 34), some (.int (nI S)), some (.int (nI row)), some (.int (q_b is)), some (.int (nI i)), some (.int (q_b (s_mr n fa cn a b 0 (S ||| 2 ^ i) (n_mul u fa i true))))], [.int ((nI row) + 1), .int (nI row), .ref 34], M5)) rfl ?_
            refine q_Wp.cv (c' := (57, [some (.ref 34), some (.int (nI S)), some (.int (nI row)), some (.int (q_b is)), some (.int (nI i)), some (.int (q_b (s_mr n fa cn a b 0 (S ||| 2 ^ i) (n_mul u fa i true))))], [.int (nI (row + 1)), .int (nI row), .ref 34], M5)) (by first | rw [nI_1] | simp only [nI_1]) ?_
            refine q_Wp.gp 2 (mj := 90) (as := [.ref 34, .int (nI row), .int (nI (row + 1)), .int (nI i), .int 0]) (pc := 63) (ls := [some (.ref 34), some (.int (nI S)), some (.int (nI row)), some (.int (q_b is)), some (.int (nI i)), some (.int (q_b (s_mr n fa cn a b 0 (S ||| 2 ^ i) (n_mul u fa i true))))]) (st := []) (M := M5) rfl (c_weighs X (d + 2) (a := row) (b := row + 1) (k := i) (by omega) (by omega) (by omega) (by omega) 0 M5) (fun r7 M8 hp9 => ?_)
            obtain ⟨rfl, hA2, hBx2, hC2, hD2⟩ := hp9
            have k1 : ∀ r, r ≠ 46 → M8.1 r = M.1 r := fun r hr => (hBx2 r hr).trans (f4 r hr)
            have k2 : ∀ j, j < 6 * row + 6 → M8.1 46 j = M.1 46 j := fun j hj => (hC2 j (by omega)).trans (f5 j hj)
            have k3 : M8.2 = M.2 := hA2.trans f6
            have hU2 : ∀ s, s < 6 → M8.1 46 (6 * (row + 1) + s) = nI (n_mul u fa i false s) := fun s hs => by rw [hD2 s hs, f5 (6 * row + s) (by omega), hU s hs]; exact (congrArg _ (s_facM_N hO hBc (show i < n by omega) hs false)).trans (pk_mul _ _)
            show q_Wp X _ 105 (63, [some (.ref 34), some (.int (nI S)), some (.int (nI row)), some (.int (q_b is)), some (.int (nI i)), some (.int (q_b (s_mr n fa cn a b 0 (S ||| 2 ^ i) (n_mul u fa i true))))], [], M8) _
            refine q_Wp.ge0 1 (b := (s_mr n fa cn a b 0 (S ||| 2 ^ i) (n_mul u fa i true))) (c1 := (82, [some (.ref 34), some (.int (nI S)), some (.int (nI row)), some (.int (q_b is)), some (.int (nI i)), some (.int (q_b (s_mr n fa cn a b 0 (S ||| 2 ^ i) (n_mul u fa i true))))], [], M8)) (c2 := (68, [some (.ref 34), some (.int (nI S)), some (.int (nI row)), some (.int (q_b is)), some (.int (nI i)), some (.int (q_b (s_mr n fa cn a b 0 (S ||| 2 ^ i) (n_mul u fa i true))))], [], M8)) rfl (fun g10 => ?_) (fun g10 => ?_)
            · -- ffft
              refine q_Wp.gn 2 (c' := (87, [some (.ref 34), some (.int (nI S)), some (.int (nI row)), some (.int 0), some (.int ((nI i) + 1)), some (.int (q_b (s_mr n fa cn a b 0 (S ||| 2 ^ i) (n_mul u fa i true))))], [], M8)) rfl ?_
              refine q_Wp.cv (c' := (87, [some (.ref 34), some (.int (nI S)), some (.int (nI row)), some (.int 0), some (.int (nI (i + 1))), some (.int (q_b (s_mr n fa cn a b 0 (S ||| 2 ^ i) (n_mul u fa i true))))], [], M8)) (by first | rw [nI_1] | simp only [nI_1]) ?_
              refine q_Wp.gn 0 (c' := (9, [some (.ref 34), some (.int (nI S)), some (.int (nI row)), some (.int 0), some (.int (nI (i + 1))), some (.int (q_b (s_mr n fa cn a b 0 (S ||| 2 ^ i) (n_mul u fa i true))))], [], M8)) rfl ?_
              exact ih (i + 1) false _ _ (by omega) k3 k1 k2 (by rw [s_any, ← Bool.or_assoc, ← his, g2, s_mq, g3, g10]; rfl) (by omega)
            · -- ffff
              refine q_Wp.gn 3 (c' := (72, [some (.ref 34), some (.int (nI S)), some (.int (nI row)), some (.int (q_b is)), some (.int (nI i)), some (.int (q_b (s_mr n fa cn a b 0 (S ||| 2 ^ i) (n_mul u fa i true))))], [.int ((nI row) + 1), .ref 34], M8)) rfl ?_
              refine q_Wp.cv (c' := (72, [some (.ref 34), some (.int (nI S)), some (.int (nI row)), some (.int (q_b is)), some (.int (nI i)), some (.int (q_b (s_mr n fa cn a b 0 (S ||| 2 ^ i) (n_mul u fa i true))))], [.int (nI (row + 1)), .ref 34], M8)) (by first | rw [nI_1] | simp only [nI_1]) ?_
              refine q_Wp.gc 0 (mj := 89) (as := [.ref 34, .int (nI (row + 1))]) (pc := 75) (ls := [some (.ref 34), some (.int (nI S)), some (.int (nI row)), some (.int (q_b is)), some (.int (nI i)), some (.int (q_b (s_mr n fa cn a b 0 (S ||| 2 ^ i) (n_mul u fa i true))))]) (st := []) (M := M8) (r1 := some (.int (q_b (s_sureM (s_row M8 (row + 1)) (M8.1 34 10) (M8.1 34 11))))) (M1 := M8) rfl (c_isSure X (d + 1) (r := row + 1) (by omega) M8) ?_
              show q_Wp X _ 105 (75, [some (.ref 34), some (.int (nI S)), some (.int (nI row)), some (.int (q_b is)), some (.int (nI i)), some (.int (q_b (s_mr n fa cn a b 0 (S ||| 2 ^ i) (n_mul u fa i true))))], [.int (q_b (s_sureM (s_row M8 (row + 1)) (M8.1 34 10) (M8.1 34 11)))], M8) _
              refine q_Wp.cv (c' := (75, [some (.ref 34), some (.int (nI S)), some (.int (nI row)), some (.int (q_b is)), some (.int (nI i)), some (.int (q_b (s_mr n fa cn a b 0 (S ||| 2 ^ i) (n_mul u fa i true))))], [.int (q_b (s_mr n fa cn a b 0 (S ||| 2 ^ i) (n_mul u fa i false)))], M8)) (by first | rw [(show s_sureM (s_row M8 (row + 1)) (M8.1 34 10) (M8.1 34 11) = s_mr n fa cn a b 0 (S ||| 2 ^ i) (n_mul u fa i false) by rw [k1 34 (by decide), h10, h11]; exact s_sureM_c hU2)] | simp only [(show s_sureM (s_row M8 (row + 1)) (M8.1 34 10) (M8.1 34 11) = s_mr n fa cn a b 0 (S ||| 2 ^ i) (n_mul u fa i false) by rw [k1 34 (by decide), h10, h11]; exact s_sureM_c hU2)]) ?_
              refine q_Wp.ge0 0 (b := (s_mr n fa cn a b 0 (S ||| 2 ^ i) (n_mul u fa i false))) (c1 := (82, [some (.ref 34), some (.int (nI S)), some (.int (nI row)), some (.int (q_b is)), some (.int (nI i)), some (.int (q_b (s_mr n fa cn a b 0 (S ||| 2 ^ i) (n_mul u fa i true))))], [], M8)) (c2 := (78, [some (.ref 34), some (.int (nI S)), some (.int (nI row)), some (.int (q_b is)), some (.int (nI i)), some (.int (q_b (s_mr n fa cn a b 0 (S ||| 2 ^ i) (n_mul u fa i true))))], [], M8)) rfl (fun g11 => ?_) (fun g11 => ?_)
              · -- fffft
                refine q_Wp.gn 2 (c' := (87, [some (.ref 34), some (.int (nI S)), some (.int (nI row)), some (.int 0), some (.int ((nI i) + 1)), some (.int (q_b (s_mr n fa cn a b 0 (S ||| 2 ^ i) (n_mul u fa i true))))], [], M8)) rfl ?_
                refine q_Wp.cv (c' := (87, [some (.ref 34), some (.int (nI S)), some (.int (nI row)), some (.int 0), some (.int (nI (i + 1))), some (.int (q_b (s_mr n fa cn a b 0 (S ||| 2 ^ i) (n_mul u fa i true))))], [], M8)) (by first | rw [nI_1] | simp only [nI_1]) ?_
                refine q_Wp.gn 0 (c' := (9, [some (.ref 34), some (.int (nI S)), some (.int (nI row)), some (.int 0), some (.int (nI (i + 1))), some (.int (q_b (s_mr n fa cn a b 0 (S ||| 2 ^ i) (n_mul u fa i true))))], [], M8)) rfl ?_
                exact ih (i + 1) false _ _ (by omega) k3 k1 k2 (by rw [s_any, ← Bool.or_assoc, ← his, g2, s_mq, g3, g10, g11]; rfl) (by omega)
              · -- fffff
                refine q_Wp.gn 3 (c' := (87, [some (.ref 34), some (.int (nI S)), some (.int (nI row)), some (.int 1), some (.int ((nI i) + 1)), some (.int (q_b (s_mr n fa cn a b 0 (S ||| 2 ^ i) (n_mul u fa i true))))], [], M8)) rfl ?_
                refine q_Wp.cv (c' := (87, [some (.ref 34), some (.int (nI S)), some (.int (nI row)), some (.int 1), some (.int (nI (i + 1))), some (.int (q_b (s_mr n fa cn a b 0 (S ||| 2 ^ i) (n_mul u fa i true))))], [], M8)) (by first | rw [nI_1] | simp only [nI_1]) ?_
                refine q_Wp.gn 0 (c' := (9, [some (.ref 34), some (.int (nI S)), some (.int (nI row)), some (.int 1), some (.int (nI (i + 1))), some (.int (q_b (s_mr n fa cn a b 0 (S ||| 2 ^ i) (n_mul u fa i true))))], [], M8)) rfl ?_
                exact ih (i + 1) true _ _ (by omega) k3 k1 k2 (by rw [s_any, ← Bool.or_assoc, ← his, g2, s_mq, g3, g10, g11]; rfl) (by omega)
  refine q_Wp.gc 2 (mj := 89) (as := [.ref 34, .int (nI row)]) (pc := 5) (ls := [some (.ref 34), some (.int (nI S)), some (.int (nI row)), none, none, none]) (st := []) (M := M) (r1 := some (.int (q_b (s_sureM (s_row M row) (M.1 34 10) (M.1 34 11))))) (M1 := M) rfl (c_isSure X (d + 1) (r := row) (by omega) M) ?_
  show q_Wp X _ 105 (5, [some (.ref 34), some (.int (nI S)), some (.int (nI row)), none, none, none], [.int (q_b (s_sureM (s_row M row) (M.1 34 10) (M.1 34 11)))], M) _
  refine q_Wp.cv (c' := (5, [some (.ref 34), some (.int (nI S)), some (.int (nI row)), none, none, none], [.int (q_b (s_sureMN u a b))], M)) (by first | rw [hsu] | simp only [hsu]) ?_
  refine q_Wp.gn 2 (c' := (9, [some (.ref 34), some (.int (nI S)), some (.int (nI row)), some (.int (q_b (s_sureMN u a b))), some (.int 0), none], [], M)) rfl ?_
  exact key (n + 1) 0 _ _ M (by omega) rfl (fun _ _ => rfl) (fun _ _ => rfl) (by rw [s_any, Bool.or_false]) (by omega)

set_option maxRecDepth 10000 in
theorem c_reachesTwo (X : q_X) (d : Nat) {n S row : Nat} {u : Nat → Nat} {fa : Nat → Nat → Nat} {sh : Nat → Int32} {cn : Nat → Bool} {a b : Int32} (hO : ok_bank n fa) (hS : S < 2 ^ n) (hr : row ≤ 7) (M : q_M) (hB : m_bank n fa sh M) (hT : ∀ U, U < 2 ^ n → M.1 48 U = q_b (cn U)) (hU : ∀ s, s < 6 → M.1 46 (6 * row + s) = nI (u s)) (h10 : M.1 34 10 = a) (h11 : M.1 34 11 = b) : q_Ep X (d + 5) 106 [.ref 34, .int (nI S), .int (nI row)] M (fun r M' => r = some (.int (q_b (s_mr n fa cn a b 2 S u))) ∧ M'.2 = M.2 ∧ (∀ r, r ≠ 46 → M'.1 r = M.1 r) ∧ ∀ j, j < 6 * row + 6 → M'.1 46 j = M.1 46 j) := by
  refine q_Ep.ofW rfl ?_
  show q_Wp X _ 106 (0, [some (.ref 34), some (.int (nI S)), some (.int (nI row)), none, none, none], [], M) _
  have hn := hO.1
  have hpn := s_pw hn
  have hsu : s_sureM (s_row M row) (M.1 34 10) (M.1 34 11) = s_sureMN u a b := by rw [h10, h11]; exact s_sureM_c hU
  have key : ∀ (kz : Nat) (i : Nat) (is : Bool) (z : Option Value) (Mi : q_M), i ≤ n → Mi.2 = M.2 → (∀ r, r ≠ 46 → Mi.1 r = M.1 r) → (∀ j, j < 6 * row + 6 → Mi.1 46 j = M.1 46 j) → is = (s_sureMN u a b || s_any i (s_mq n fa cn a b 1 S u)) → n - i < kz → q_Wp X (d + 4) 106 (9, [some (.ref 34), some (.int (nI S)), some (.int (nI row)), some (.int (q_b is)), some (.int (nI i)), z], [], Mi) (fun r M' => r = some (.int (q_b (s_mr n fa cn a b 2 S u))) ∧ M'.2 = M.2 ∧ (∀ r, r ≠ 46 → M'.1 r = M.1 r) ∧ ∀ j, j < 6 * row + 6 → M'.1 46 j = M.1 46 j) := by
    intro kz
    induction kz with
    | zero => intro i is z Mi hi hI1 hI2 hI3 his hm; exact absurd hm (by omega)
    | succ kz ih =>
      intro i is z Mi hi hI1 hI2 hI3 his hm
      have hBi : m_bank n fa sh Mi := hB.keep (congrFun (hI2 34 (by decide)) 0) (fun r h1 h2 => hI2 r (by omega))
      have hTi : ∀ U, U < 2 ^ n → Mi.1 48 U = q_b (cn U) := fun U hU => by rw [hI2 48 (by decide)]; exact hT U hU
      refine q_Wp.gn 2 (c' := (15, [some (.ref 34), some (.int (nI S)), some (.int (nI row)), some (.int (q_b is)), some (.int (nI i)), z], [.int (Mi.1 34 0), .int (nI i)], Mi)) rfl ?_
      refine q_Wp.cv (c' := (15, [some (.ref 34), some (.int (nI S)), some (.int (nI row)), some (.int (q_b is)), some (.int (nI i)), z], [.int (nI n), .int (nI i)], Mi)) (by first | rw [hBi.1] | simp only [hBi.1]) ?_
      refine q_Wp.gd 0 ((nI n) ≤ (nI i)) (c1 := (102, [some (.ref 34), some (.int (nI S)), some (.int (nI row)), some (.int (q_b is)), some (.int (nI i)), z], [], Mi)) (c2 := (18, [some (.ref 34), some (.int (nI S)), some (.int (nI row)), some (.int (q_b is)), some (.int (nI i)), z], [], Mi)) rfl (fun g1 => ?_) (fun g1 => ?_)
      · -- t
        have g1 : n ≤ i := (nI_leI (a := n) (b := i) (by omega) (by omega)).mp g1
        refine q_Wp.gn 0 (c' := (103, [some (.ref 34), some (.int (nI S)), some (.int (nI row)), some (.int (q_b is)), some (.int (nI i)), z], [.int (q_b is)], Mi)) rfl ?_
        refine q_Wp.zr rfl rfl (q_b01 _) ?_
        (have e : i = n := by omega)
        subst e
        exact ⟨by rw [his]; rfl, hI1, hI2, hI3⟩
      · -- f
        have g1 : ¬ n ≤ i := fun z => g1 ((nI_leI (a := n) (b := i) (by omega) (by omega)).mpr z)
        refine q_Wp.gn0 1 (b := is) (c1 := (102, [some (.ref 34), some (.int (nI S)), some (.int (nI row)), some (.int (q_b is)), some (.int (nI i)), z], [], Mi)) (c2 := (22, [some (.ref 34), some (.int (nI S)), some (.int (nI row)), some (.int (q_b is)), some (.int (nI i)), z], [], Mi)) rfl (fun g2 => ?_) (fun g2 => ?_)
        · -- ft
          refine q_Wp.gn 0 (c' := (103, [some (.ref 34), some (.int (nI S)), some (.int (nI row)), some (.int (q_b is)), some (.int (nI i)), z], [.int (q_b is)], Mi)) rfl ?_
          exact q_Wp.zr rfl rfl (q_b01 _) ⟨by rw [show s_mr n fa cn a b 2 S u = is by rw [g2] at his ⊢; rcases Bool.or_eq_true_iff.mp his.symm with h | h; exact Bool.or_eq_true_iff.mpr (Or.inl h); exact Bool.or_eq_true_iff.mpr (Or.inr (s_any_mono h hi))], hI1, hI2, hI3⟩
        · -- ff
          refine q_Wp.gc 3 (mj := 84) (as := [.ref 34, .int (nI i), .int (nI S)]) (pc := 29) (ls := [some (.ref 34), some (.int (nI S)), some (.int (nI row)), some (.int (q_b is)), some (.int (nI i)), z]) (st := []) (M := Mi) (r1 := some (.int (q_b (s_may n fa cn S i)))) (M1 := Mi) rfl (c_mayBe X (d + 1) (n := n) (S := S) (q := i) (fa := fa) (sh := sh) (cn := cn) hO hS (by omega) Mi hBi hTi) ?_
          show q_Wp X _ 106 (29, [some (.ref 34), some (.int (nI S)), some (.int (nI row)), some (.int (q_b is)), some (.int (nI i)), z], [.int (q_b (s_may n fa cn S i))], Mi) _
          refine q_Wp.ge0 0 (b := (s_may n fa cn S i)) (c1 := (96, [some (.ref 34), some (.int (nI S)), some (.int (nI row)), some (.int (q_b is)), some (.int (nI i)), z], [], Mi)) (c2 := (32, [some (.ref 34), some (.int (nI S)), some (.int (nI row)), some (.int (q_b is)), some (.int (nI i)), z], [], Mi)) rfl (fun g3 => ?_) (fun g3 => ?_)
          · -- fft
            refine q_Wp.gn 0 (c' := (99, [some (.ref 34), some (.int (nI S)), some (.int (nI row)), some (.int (q_b is)), some (.int ((nI i) + 1)), z], [], Mi)) rfl ?_
            refine q_Wp.cv (c' := (99, [some (.ref 34), some (.int (nI S)), some (.int (nI row)), some (.int (q_b is)), some (.int (nI (i + 1))), z], [], Mi)) (by first | rw [nI_1] | simp only [nI_1]) ?_
            refine q_Wp.gn 0 (c' := (9, [some (.ref 34), some (.int (nI S)), some (.int (nI row)), some (.int (q_b is)), some (.int (nI (i + 1))), z], [], Mi)) rfl ?_
            exact ih (i + 1) is _ Mi (by omega) hI1 hI2 hI3 (by rw [s_any, ← Bool.or_assoc, ← his, g2, s_mq, g3]; rfl) (by omega)
          · -- fff
            refine q_Wp.gn 4 (c' := (37, [some (.ref 34), some (.int (nI S)), some (.int (nI row)), some (.int (q_b is)), some (.int (nI i)), z], [.int ((nI row) + 1), .int (nI row), .ref 34], Mi)) rfl ?_
            refine q_Wp.cv (c' := (37, [some (.ref 34), some (.int (nI S)), some (.int (nI row)), some (.int (q_b is)), some (.int (nI i)), z], [.int (nI (row + 1)), .int (nI row), .ref 34], Mi)) (by first | rw [nI_1] | simp only [nI_1]) ?_
            refine q_Wp.gp 2 (mj := 90) (as := [.ref 34, .int (nI row), .int (nI (row + 1)), .int (nI i), .int 1]) (pc := 43) (ls := [some (.ref 34), some (.int (nI S)), some (.int (nI row)), some (.int (q_b is)), some (.int (nI i)), z]) (st := []) (M := Mi) rfl (c_weighs X (d + 3) (a := row) (b := row + 1) (k := i) (by omega) (by omega) (by omega) (by omega) 1 Mi) (fun r4 M5 hp6 => ?_)
            obtain ⟨rfl, hA, hBx, hC, hD⟩ := hp6
            have f1 : ∀ r, r ≠ 46 → M5.1 r = M.1 r := fun r hr => (hBx r hr).trans (hI2 r hr)
            have f2 : ∀ j, j < 6 * row + 6 → M5.1 46 j = M.1 46 j := fun j hj => (hC j (by omega)).trans (hI3 j hj)
            have f3 : M5.2 = M.2 := hA.trans hI1
            have hU1 : ∀ s, s < 6 → M5.1 46 (6 * (row + 1) + s) = nI (n_mul u fa i true s) := fun s hs => by rw [hD s hs, hI3 (6 * row + s) (by omega), hU s hs]; exact (congrArg _ (s_facM_N hO hBi (show i < n by omega) hs true)).trans (pk_mul _ _)
            show q_Wp X _ 106 (43, [some (.ref 34), some (.int (nI S)), some (.int (nI row)), some (.int (q_b is)), some (.int (nI i)), z], [], M5) _
            refine q_Wp.gn 4 (c' := (49, [some (.ref 34), some (.int (nI S)), some (.int (nI row)), some (.int (q_b is)), some (.int (nI i)), z], [.int (1 <<< ((nI i) &&& 31)), .int (nI S), .ref 34], M5)) rfl ?_
            refine q_Wp.cv (c' := (49, [some (.ref 34), some (.int (nI S)), some (.int (nI row)), some (.int (q_b is)), some (.int (nI i)), z], [.int (nI (2 ^ i)), .int (nI S), .ref 34], M5)) (by first | rw [s_1shl i (by omega)] | simp only [s_1shl i (by omega)]) ?_
            refine q_Wp.gn 0 (c' := (50, [some (.ref 34), some (.int (nI S)), some (.int (nI row)), some (.int (q_b is)), some (.int (nI i)), z], [.int ((nI S) ||| (nI (2 ^ i))), .ref 34], M5)) rfl ?_
            refine q_Wp.cv (c' := (50, [some (.ref 34), some (.int (nI S)), some (.int (nI row)), some (.int (q_b is)), some (.int (nI i)), z], [.int (nI (S ||| 2 ^ i)), .ref 34], M5)) (by first | rw [s_or] | simp only [s_or]) ?_
            refine q_Wp.gn 2 (c' := (53, [some (.ref 34), some (.int (nI S)), some (.int (nI row)), some (.int (q_b is)), some (.int (nI i)), z], [.int ((nI row) + 1), .int (nI (S ||| 2 ^ i)), .ref 34], M5)) rfl ?_
            refine q_Wp.cv (c' := (53, [some (.ref 34), some (.int (nI S)), some (.int (nI row)), some (.int (q_b is)), some (.int (nI i)), z], [.int (nI (row + 1)), .int (nI (S ||| 2 ^ i)), .ref 34], M5)) (by first | rw [nI_1] | simp only [nI_1]) ?_
            refine q_Wp.gp 0 (mj := 105) (as := [.ref 34, .int (nI (S ||| 2 ^ i)), .int (nI (row + 1))]) (pc := 56) (ls := [some (.ref 34), some (.int (nI S)), some (.int (nI row)), some (.int (q_b is)), some (.int (nI i)), z]) (st := []) (M := M5) rfl (c_reachesOne X d (n := n) (S := S ||| 2 ^ i) (row := row + 1) (u := n_mul u fa i true) (fa := fa) (sh := sh) (cn := cn) (a := a) (b := b) hO (s_orlt hS (show i < n by omega)) (by omega) M5 (hB.keep (congrFun (f1 34 (by decide)) 0) (fun r h1 h2 => f1 r (by omega))) (fun U hU => by rw [f1 48 (by decide)]; exact hT U hU) hU1 (by rw [f1 34 (by decide)]; exact h10) (by rw [f1 34 (by decide)]; exact h11)) (fun r7 M8 hp9 => ?_)
            obtain ⟨rfl, hE1, hE2, hE3⟩ := hp9
            have f4 : ∀ r, r ≠ 46 → M8.1 r = M.1 r := fun r hr => (hE2 r hr).trans (f1 r hr)
            have f5 : ∀ j, j < 6 * row + 6 → M8.1 46 j = M.1 46 j := fun j hj => (hE3 j (by omega)).trans (f2 j hj)
            have f6 : M8.2 = M.2 := hE1.trans f3
            have hBc : m_bank n fa sh M8 := hB.keep (congrFun (f4 34 (by decide)) 0) (fun r h1 h2 => f4 r (by omega))
            show q_Wp X _ 106 (56, [some (.ref 34), some (.int (nI S)), some (.int (nI row)), some (.int (q_b is)), some (.int (nI i)), z], [.int (q_b (s_mr n fa cn a b 1 (S ||| 2 ^ i) (n_mul u fa i true)))], M8) _
            refine q_Wp.gn 5 (c' := (63, [some (.ref 34), some (.int (nI S)), some (.int (nI row)), some (.int (q_b is)), some (.int (nI i)), some (.int (q_b (s_mr n fa cn a b 1 (S ||| 2 ^ i) (n_mul u fa i true))))], [.int ((nI row) + 1), .int (nI row), .ref 34], M8)) rfl ?_
            refine q_Wp.cv (c' := (63, [some (.ref 34), some (.int (nI S)), some (.int (nI row)), some (.int (q_b is)), some (.int (nI i)), some (.int (q_b (s_mr n fa cn a b 1 (S ||| 2 ^ i) (n_mul u fa i true))))], [.int (nI (row + 1)), .int (nI row), .ref 34], M8)) (by first | rw [nI_1] | simp only [nI_1]) ?_
            refine q_Wp.gp 2 (mj := 90) (as := [.ref 34, .int (nI row), .int (nI (row + 1)), .int (nI i), .int 0]) (pc := 69) (ls := [some (.ref 34), some (.int (nI S)), some (.int (nI row)), some (.int (q_b is)), some (.int (nI i)), some (.int (q_b (s_mr n fa cn a b 1 (S ||| 2 ^ i) (n_mul u fa i true))))]) (st := []) (M := M8) rfl (c_weighs X (d + 3) (a := row) (b := row + 1) (k := i) (by omega) (by omega) (by omega) (by omega) 0 M8) (fun r10 M11 hp12 => ?_)
            obtain ⟨rfl, hA2, hBx2, hC2, hD2⟩ := hp12
            have k1 : ∀ r, r ≠ 46 → M11.1 r = M.1 r := fun r hr => (hBx2 r hr).trans (f4 r hr)
            have k2 : ∀ j, j < 6 * row + 6 → M11.1 46 j = M.1 46 j := fun j hj => (hC2 j (by omega)).trans (f5 j hj)
            have k3 : M11.2 = M.2 := hA2.trans f6
            have hU2 : ∀ s, s < 6 → M11.1 46 (6 * (row + 1) + s) = nI (n_mul u fa i false s) := fun s hs => by rw [hD2 s hs, f5 (6 * row + s) (by omega), hU s hs]; exact (congrArg _ (s_facM_N hO hBc (show i < n by omega) hs false)).trans (pk_mul _ _)
            show q_Wp X _ 106 (69, [some (.ref 34), some (.int (nI S)), some (.int (nI row)), some (.int (q_b is)), some (.int (nI i)), some (.int (q_b (s_mr n fa cn a b 1 (S ||| 2 ^ i) (n_mul u fa i true))))], [], M11) _
            refine q_Wp.ge0 1 (b := (s_mr n fa cn a b 1 (S ||| 2 ^ i) (n_mul u fa i true))) (c1 := (94, [some (.ref 34), some (.int (nI S)), some (.int (nI row)), some (.int (q_b is)), some (.int (nI i)), some (.int (q_b (s_mr n fa cn a b 1 (S ||| 2 ^ i) (n_mul u fa i true))))], [], M11)) (c2 := (74, [some (.ref 34), some (.int (nI S)), some (.int (nI row)), some (.int (q_b is)), some (.int (nI i)), some (.int (q_b (s_mr n fa cn a b 1 (S ||| 2 ^ i) (n_mul u fa i true))))], [], M11)) rfl (fun g13 => ?_) (fun g13 => ?_)
            · -- ffft
              refine q_Wp.gn 2 (c' := (99, [some (.ref 34), some (.int (nI S)), some (.int (nI row)), some (.int 0), some (.int ((nI i) + 1)), some (.int (q_b (s_mr n fa cn a b 1 (S ||| 2 ^ i) (n_mul u fa i true))))], [], M11)) rfl ?_
              refine q_Wp.cv (c' := (99, [some (.ref 34), some (.int (nI S)), some (.int (nI row)), some (.int 0), some (.int (nI (i + 1))), some (.int (q_b (s_mr n fa cn a b 1 (S ||| 2 ^ i) (n_mul u fa i true))))], [], M11)) (by first | rw [nI_1] | simp only [nI_1]) ?_
              refine q_Wp.gn 0 (c' := (9, [some (.ref 34), some (.int (nI S)), some (.int (nI row)), some (.int 0), some (.int (nI (i + 1))), some (.int (q_b (s_mr n fa cn a b 1 (S ||| 2 ^ i) (n_mul u fa i true))))], [], M11)) rfl ?_
              exact ih (i + 1) false _ _ (by omega) k3 k1 k2 (by rw [s_any, ← Bool.or_assoc, ← his, g2, s_mq, g3, g13]; rfl) (by omega)
            · -- ffff
              refine q_Wp.gn 4 (c' := (80, [some (.ref 34), some (.int (nI S)), some (.int (nI row)), some (.int (q_b is)), some (.int (nI i)), some (.int (q_b (s_mr n fa cn a b 1 (S ||| 2 ^ i) (n_mul u fa i true))))], [.int (1 <<< ((nI i) &&& 31)), .int (nI S), .ref 34], M11)) rfl ?_
              refine q_Wp.cv (c' := (80, [some (.ref 34), some (.int (nI S)), some (.int (nI row)), some (.int (q_b is)), some (.int (nI i)), some (.int (q_b (s_mr n fa cn a b 1 (S ||| 2 ^ i) (n_mul u fa i true))))], [.int (nI (2 ^ i)), .int (nI S), .ref 34], M11)) (by first | rw [s_1shl i (by omega)] | simp only [s_1shl i (by omega)]) ?_
              refine q_Wp.gn 0 (c' := (81, [some (.ref 34), some (.int (nI S)), some (.int (nI row)), some (.int (q_b is)), some (.int (nI i)), some (.int (q_b (s_mr n fa cn a b 1 (S ||| 2 ^ i) (n_mul u fa i true))))], [.int ((nI S) ||| (nI (2 ^ i))), .ref 34], M11)) rfl ?_
              refine q_Wp.cv (c' := (81, [some (.ref 34), some (.int (nI S)), some (.int (nI row)), some (.int (q_b is)), some (.int (nI i)), some (.int (q_b (s_mr n fa cn a b 1 (S ||| 2 ^ i) (n_mul u fa i true))))], [.int (nI (S ||| 2 ^ i)), .ref 34], M11)) (by first | rw [s_or] | simp only [s_or]) ?_
              refine q_Wp.gn 2 (c' := (84, [some (.ref 34), some (.int (nI S)), some (.int (nI row)), some (.int (q_b is)), some (.int (nI i)), some (.int (q_b (s_mr n fa cn a b 1 (S ||| 2 ^ i) (n_mul u fa i true))))], [.int ((nI row) + 1), .int (nI (S ||| 2 ^ i)), .ref 34], M11)) rfl ?_
              refine q_Wp.cv (c' := (84, [some (.ref 34), some (.int (nI S)), some (.int (nI row)), some (.int (q_b is)), some (.int (nI i)), some (.int (q_b (s_mr n fa cn a b 1 (S ||| 2 ^ i) (n_mul u fa i true))))], [.int (nI (row + 1)), .int (nI (S ||| 2 ^ i)), .ref 34], M11)) (by first | rw [nI_1] | simp only [nI_1]) ?_
              refine q_Wp.gp 0 (mj := 105) (as := [.ref 34, .int (nI (S ||| 2 ^ i)), .int (nI (row + 1))]) (pc := 87) (ls := [some (.ref 34), some (.int (nI S)), some (.int (nI row)), some (.int (q_b is)), some (.int (nI i)), some (.int (q_b (s_mr n fa cn a b 1 (S ||| 2 ^ i) (n_mul u fa i true))))]) (st := []) (M := M11) rfl (c_reachesOne X d (n := n) (S := S ||| 2 ^ i) (row := row + 1) (u := n_mul u fa i false) (fa := fa) (sh := sh) (cn := cn) (a := a) (b := b) hO (s_orlt hS (show i < n by omega)) (by omega) M11 (hB.keep (congrFun (k1 34 (by decide)) 0) (fun r h1 h2 => k1 r (by omega))) (fun U hU => by rw [k1 48 (by decide)]; exact hT U hU) hU2 (by rw [k1 34 (by decide)]; exact h10) (by rw [k1 34 (by decide)]; exact h11)) (fun r14 M15 hp16 => ?_)
              obtain ⟨rfl, hG1, hG2, hG3⟩ := hp16
              have l1 : ∀ r, r ≠ 46 → M15.1 r = M.1 r := fun r hr => (hG2 r hr).trans (k1 r hr)
              have l2 : ∀ j, j < 6 * row + 6 → M15.1 46 j = M.1 46 j := fun j hj => (hG3 j (by omega)).trans (k2 j hj)
              have l3 : M15.2 = M.2 := hG1.trans k3
              show q_Wp X _ 106 (87, [some (.ref 34), some (.int (nI S)), some (.int (nI row)), some (.int (q_b is)), some (.int (nI i)), some (.int (q_b (s_mr n fa cn a b 1 (S ||| 2 ^ i) (n_mul u fa i true))))], [.int (q_b (s_mr n fa cn a b 1 (S ||| 2 ^ i) (n_mul u fa i false)))], M15) _
              refine q_Wp.ge0 0 (b := (s_mr n fa cn a b 1 (S ||| 2 ^ i) (n_mul u fa i false))) (c1 := (94, [some (.ref 34), some (.int (nI S)), some (.int (nI row)), some (.int (q_b is)), some (.int (nI i)), some (.int (q_b (s_mr n fa cn a b 1 (S ||| 2 ^ i) (n_mul u fa i true))))], [], M15)) (c2 := (90, [some (.ref 34), some (.int (nI S)), some (.int (nI row)), some (.int (q_b is)), some (.int (nI i)), some (.int (q_b (s_mr n fa cn a b 1 (S ||| 2 ^ i) (n_mul u fa i true))))], [], M15)) rfl (fun g17 => ?_) (fun g17 => ?_)
              · -- fffft
                refine q_Wp.gn 2 (c' := (99, [some (.ref 34), some (.int (nI S)), some (.int (nI row)), some (.int 0), some (.int ((nI i) + 1)), some (.int (q_b (s_mr n fa cn a b 1 (S ||| 2 ^ i) (n_mul u fa i true))))], [], M15)) rfl ?_
                refine q_Wp.cv (c' := (99, [some (.ref 34), some (.int (nI S)), some (.int (nI row)), some (.int 0), some (.int (nI (i + 1))), some (.int (q_b (s_mr n fa cn a b 1 (S ||| 2 ^ i) (n_mul u fa i true))))], [], M15)) (by first | rw [nI_1] | simp only [nI_1]) ?_
                refine q_Wp.gn 0 (c' := (9, [some (.ref 34), some (.int (nI S)), some (.int (nI row)), some (.int 0), some (.int (nI (i + 1))), some (.int (q_b (s_mr n fa cn a b 1 (S ||| 2 ^ i) (n_mul u fa i true))))], [], M15)) rfl ?_
                exact ih (i + 1) false _ _ (by omega) l3 l1 l2 (by rw [s_any, ← Bool.or_assoc, ← his, g2, s_mq, g3, g13, g17]; rfl) (by omega)
              · -- fffff
                refine q_Wp.gn 3 (c' := (99, [some (.ref 34), some (.int (nI S)), some (.int (nI row)), some (.int 1), some (.int ((nI i) + 1)), some (.int (q_b (s_mr n fa cn a b 1 (S ||| 2 ^ i) (n_mul u fa i true))))], [], M15)) rfl ?_
                refine q_Wp.cv (c' := (99, [some (.ref 34), some (.int (nI S)), some (.int (nI row)), some (.int 1), some (.int (nI (i + 1))), some (.int (q_b (s_mr n fa cn a b 1 (S ||| 2 ^ i) (n_mul u fa i true))))], [], M15)) (by first | rw [nI_1] | simp only [nI_1]) ?_
                refine q_Wp.gn 0 (c' := (9, [some (.ref 34), some (.int (nI S)), some (.int (nI row)), some (.int 1), some (.int (nI (i + 1))), some (.int (q_b (s_mr n fa cn a b 1 (S ||| 2 ^ i) (n_mul u fa i true))))], [], M15)) rfl ?_
                exact ih (i + 1) true _ _ (by omega) l3 l1 l2 (by rw [s_any, ← Bool.or_assoc, ← his, g2, s_mq, g3, g13, g17]; rfl) (by omega)
  refine q_Wp.gc 2 (mj := 89) (as := [.ref 34, .int (nI row)]) (pc := 5) (ls := [some (.ref 34), some (.int (nI S)), some (.int (nI row)), none, none, none]) (st := []) (M := M) (r1 := some (.int (q_b (s_sureM (s_row M row) (M.1 34 10) (M.1 34 11))))) (M1 := M) rfl (c_isSure X (d + 2) (r := row) (by omega) M) ?_
  show q_Wp X _ 106 (5, [some (.ref 34), some (.int (nI S)), some (.int (nI row)), none, none, none], [.int (q_b (s_sureM (s_row M row) (M.1 34 10) (M.1 34 11)))], M) _
  refine q_Wp.cv (c' := (5, [some (.ref 34), some (.int (nI S)), some (.int (nI row)), none, none, none], [.int (q_b (s_sureMN u a b))], M)) (by first | rw [hsu] | simp only [hsu]) ?_
  refine q_Wp.gn 2 (c' := (9, [some (.ref 34), some (.int (nI S)), some (.int (nI row)), some (.int (q_b (s_sureMN u a b))), some (.int 0), none], [], M)) rfl ?_
  exact key (n + 1) 0 _ _ M (by omega) rfl (fun _ _ => rfl) (fun _ _ => rfl) (by rw [s_any, Bool.or_false]) (by omega)

set_option maxRecDepth 10000 in
theorem c_reachesThree (X : q_X) (d : Nat) {n S row : Nat} {u : Nat → Nat} {fa : Nat → Nat → Nat} {sh : Nat → Int32} {cn : Nat → Bool} {a b : Int32} (hO : ok_bank n fa) (hS : S < 2 ^ n) (hr : row ≤ 6) (M : q_M) (hB : m_bank n fa sh M) (hT : ∀ U, U < 2 ^ n → M.1 48 U = q_b (cn U)) (hU : ∀ s, s < 6 → M.1 46 (6 * row + s) = nI (u s)) (h10 : M.1 34 10 = a) (h11 : M.1 34 11 = b) : q_Ep X (d + 6) 107 [.ref 34, .int (nI S), .int (nI row)] M (fun r M' => r = some (.int (q_b (s_mr n fa cn a b 3 S u))) ∧ M'.2 = M.2 ∧ (∀ r, r ≠ 46 → M'.1 r = M.1 r) ∧ ∀ j, j < 6 * row + 6 → M'.1 46 j = M.1 46 j) := by
  refine q_Ep.ofW rfl ?_
  show q_Wp X _ 107 (0, [some (.ref 34), some (.int (nI S)), some (.int (nI row)), none, none, none], [], M) _
  have hn := hO.1
  have hpn := s_pw hn
  have hsu : s_sureM (s_row M row) (M.1 34 10) (M.1 34 11) = s_sureMN u a b := by rw [h10, h11]; exact s_sureM_c hU
  have key : ∀ (kz : Nat) (i : Nat) (is : Bool) (z : Option Value) (Mi : q_M), i ≤ n → Mi.2 = M.2 → (∀ r, r ≠ 46 → Mi.1 r = M.1 r) → (∀ j, j < 6 * row + 6 → Mi.1 46 j = M.1 46 j) → is = (s_sureMN u a b || s_any i (s_mq n fa cn a b 2 S u)) → n - i < kz → q_Wp X (d + 5) 107 (9, [some (.ref 34), some (.int (nI S)), some (.int (nI row)), some (.int (q_b is)), some (.int (nI i)), z], [], Mi) (fun r M' => r = some (.int (q_b (s_mr n fa cn a b 3 S u))) ∧ M'.2 = M.2 ∧ (∀ r, r ≠ 46 → M'.1 r = M.1 r) ∧ ∀ j, j < 6 * row + 6 → M'.1 46 j = M.1 46 j) := by
    intro kz
    induction kz with
    | zero => intro i is z Mi hi hI1 hI2 hI3 his hm; exact absurd hm (by omega)
    | succ kz ih =>
      intro i is z Mi hi hI1 hI2 hI3 his hm
      have hBi : m_bank n fa sh Mi := hB.keep (congrFun (hI2 34 (by decide)) 0) (fun r h1 h2 => hI2 r (by omega))
      have hTi : ∀ U, U < 2 ^ n → Mi.1 48 U = q_b (cn U) := fun U hU => by rw [hI2 48 (by decide)]; exact hT U hU
      refine q_Wp.gn 2 (c' := (15, [some (.ref 34), some (.int (nI S)), some (.int (nI row)), some (.int (q_b is)), some (.int (nI i)), z], [.int (Mi.1 34 0), .int (nI i)], Mi)) rfl ?_
      refine q_Wp.cv (c' := (15, [some (.ref 34), some (.int (nI S)), some (.int (nI row)), some (.int (q_b is)), some (.int (nI i)), z], [.int (nI n), .int (nI i)], Mi)) (by first | rw [hBi.1] | simp only [hBi.1]) ?_
      refine q_Wp.gd 0 ((nI n) ≤ (nI i)) (c1 := (102, [some (.ref 34), some (.int (nI S)), some (.int (nI row)), some (.int (q_b is)), some (.int (nI i)), z], [], Mi)) (c2 := (18, [some (.ref 34), some (.int (nI S)), some (.int (nI row)), some (.int (q_b is)), some (.int (nI i)), z], [], Mi)) rfl (fun g1 => ?_) (fun g1 => ?_)
      · -- t
        have g1 : n ≤ i := (nI_leI (a := n) (b := i) (by omega) (by omega)).mp g1
        refine q_Wp.gn 0 (c' := (103, [some (.ref 34), some (.int (nI S)), some (.int (nI row)), some (.int (q_b is)), some (.int (nI i)), z], [.int (q_b is)], Mi)) rfl ?_
        refine q_Wp.zr rfl rfl (q_b01 _) ?_
        (have e : i = n := by omega)
        subst e
        exact ⟨by rw [his]; rfl, hI1, hI2, hI3⟩
      · -- f
        have g1 : ¬ n ≤ i := fun z => g1 ((nI_leI (a := n) (b := i) (by omega) (by omega)).mpr z)
        refine q_Wp.gn0 1 (b := is) (c1 := (102, [some (.ref 34), some (.int (nI S)), some (.int (nI row)), some (.int (q_b is)), some (.int (nI i)), z], [], Mi)) (c2 := (22, [some (.ref 34), some (.int (nI S)), some (.int (nI row)), some (.int (q_b is)), some (.int (nI i)), z], [], Mi)) rfl (fun g2 => ?_) (fun g2 => ?_)
        · -- ft
          refine q_Wp.gn 0 (c' := (103, [some (.ref 34), some (.int (nI S)), some (.int (nI row)), some (.int (q_b is)), some (.int (nI i)), z], [.int (q_b is)], Mi)) rfl ?_
          exact q_Wp.zr rfl rfl (q_b01 _) ⟨by rw [show s_mr n fa cn a b 3 S u = is by rw [g2] at his ⊢; rcases Bool.or_eq_true_iff.mp his.symm with h | h; exact Bool.or_eq_true_iff.mpr (Or.inl h); exact Bool.or_eq_true_iff.mpr (Or.inr (s_any_mono h hi))], hI1, hI2, hI3⟩
        · -- ff
          refine q_Wp.gc 3 (mj := 84) (as := [.ref 34, .int (nI i), .int (nI S)]) (pc := 29) (ls := [some (.ref 34), some (.int (nI S)), some (.int (nI row)), some (.int (q_b is)), some (.int (nI i)), z]) (st := []) (M := Mi) (r1 := some (.int (q_b (s_may n fa cn S i)))) (M1 := Mi) rfl (c_mayBe X (d + 2) (n := n) (S := S) (q := i) (fa := fa) (sh := sh) (cn := cn) hO hS (by omega) Mi hBi hTi) ?_
          show q_Wp X _ 107 (29, [some (.ref 34), some (.int (nI S)), some (.int (nI row)), some (.int (q_b is)), some (.int (nI i)), z], [.int (q_b (s_may n fa cn S i))], Mi) _
          refine q_Wp.ge0 0 (b := (s_may n fa cn S i)) (c1 := (96, [some (.ref 34), some (.int (nI S)), some (.int (nI row)), some (.int (q_b is)), some (.int (nI i)), z], [], Mi)) (c2 := (32, [some (.ref 34), some (.int (nI S)), some (.int (nI row)), some (.int (q_b is)), some (.int (nI i)), z], [], Mi)) rfl (fun g3 => ?_) (fun g3 => ?_)
          · -- fft
            refine q_Wp.gn 0 (c' := (99, [some (.ref 34), some (.int (nI S)), some (.int (nI row)), some (.int (q_b is)), some (.int ((nI i) + 1)), z], [], Mi)) rfl ?_
            refine q_Wp.cv (c' := (99, [some (.ref 34), some (.int (nI S)), some (.int (nI row)), some (.int (q_b is)), some (.int (nI (i + 1))), z], [], Mi)) (by first | rw [nI_1] | simp only [nI_1]) ?_
            refine q_Wp.gn 0 (c' := (9, [some (.ref 34), some (.int (nI S)), some (.int (nI row)), some (.int (q_b is)), some (.int (nI (i + 1))), z], [], Mi)) rfl ?_
            exact ih (i + 1) is _ Mi (by omega) hI1 hI2 hI3 (by rw [s_any, ← Bool.or_assoc, ← his, g2, s_mq, g3]; rfl) (by omega)
          · -- fff
            refine q_Wp.gn 4 (c' := (37, [some (.ref 34), some (.int (nI S)), some (.int (nI row)), some (.int (q_b is)), some (.int (nI i)), z], [.int ((nI row) + 1), .int (nI row), .ref 34], Mi)) rfl ?_
            refine q_Wp.cv (c' := (37, [some (.ref 34), some (.int (nI S)), some (.int (nI row)), some (.int (q_b is)), some (.int (nI i)), z], [.int (nI (row + 1)), .int (nI row), .ref 34], Mi)) (by first | rw [nI_1] | simp only [nI_1]) ?_
            refine q_Wp.gp 2 (mj := 90) (as := [.ref 34, .int (nI row), .int (nI (row + 1)), .int (nI i), .int 1]) (pc := 43) (ls := [some (.ref 34), some (.int (nI S)), some (.int (nI row)), some (.int (q_b is)), some (.int (nI i)), z]) (st := []) (M := Mi) rfl (c_weighs X (d + 4) (a := row) (b := row + 1) (k := i) (by omega) (by omega) (by omega) (by omega) 1 Mi) (fun r4 M5 hp6 => ?_)
            obtain ⟨rfl, hA, hBx, hC, hD⟩ := hp6
            have f1 : ∀ r, r ≠ 46 → M5.1 r = M.1 r := fun r hr => (hBx r hr).trans (hI2 r hr)
            have f2 : ∀ j, j < 6 * row + 6 → M5.1 46 j = M.1 46 j := fun j hj => (hC j (by omega)).trans (hI3 j hj)
            have f3 : M5.2 = M.2 := hA.trans hI1
            have hU1 : ∀ s, s < 6 → M5.1 46 (6 * (row + 1) + s) = nI (n_mul u fa i true s) := fun s hs => by rw [hD s hs, hI3 (6 * row + s) (by omega), hU s hs]; exact (congrArg _ (s_facM_N hO hBi (show i < n by omega) hs true)).trans (pk_mul _ _)
            show q_Wp X _ 107 (43, [some (.ref 34), some (.int (nI S)), some (.int (nI row)), some (.int (q_b is)), some (.int (nI i)), z], [], M5) _
            refine q_Wp.gn 4 (c' := (49, [some (.ref 34), some (.int (nI S)), some (.int (nI row)), some (.int (q_b is)), some (.int (nI i)), z], [.int (1 <<< ((nI i) &&& 31)), .int (nI S), .ref 34], M5)) rfl ?_
            refine q_Wp.cv (c' := (49, [some (.ref 34), some (.int (nI S)), some (.int (nI row)), some (.int (q_b is)), some (.int (nI i)), z], [.int (nI (2 ^ i)), .int (nI S), .ref 34], M5)) (by first | rw [s_1shl i (by omega)] | simp only [s_1shl i (by omega)]) ?_
            refine q_Wp.gn 0 (c' := (50, [some (.ref 34), some (.int (nI S)), some (.int (nI row)), some (.int (q_b is)), some (.int (nI i)), z], [.int ((nI S) ||| (nI (2 ^ i))), .ref 34], M5)) rfl ?_
            refine q_Wp.cv (c' := (50, [some (.ref 34), some (.int (nI S)), some (.int (nI row)), some (.int (q_b is)), some (.int (nI i)), z], [.int (nI (S ||| 2 ^ i)), .ref 34], M5)) (by first | rw [s_or] | simp only [s_or]) ?_
            refine q_Wp.gn 2 (c' := (53, [some (.ref 34), some (.int (nI S)), some (.int (nI row)), some (.int (q_b is)), some (.int (nI i)), z], [.int ((nI row) + 1), .int (nI (S ||| 2 ^ i)), .ref 34], M5)) rfl ?_
            refine q_Wp.cv (c' := (53, [some (.ref 34), some (.int (nI S)), some (.int (nI row)), some (.int (q_b is)), some (.int (nI i)), z], [.int (nI (row + 1)), .int (nI (S ||| 2 ^ i)), .ref 34], M5)) (by first | rw [nI_1] | simp only [nI_1]) ?_
            refine q_Wp.gp 0 (mj := 106) (as := [.ref 34, .int (nI (S ||| 2 ^ i)), .int (nI (row + 1))]) (pc := 56) (ls := [some (.ref 34), some (.int (nI S)), some (.int (nI row)), some (.int (q_b is)), some (.int (nI i)), z]) (st := []) (M := M5) rfl (c_reachesTwo X d (n := n) (S := S ||| 2 ^ i) (row := row + 1) (u := n_mul u fa i true) (fa := fa) (sh := sh) (cn := cn) (a := a) (b := b) hO (s_orlt hS (show i < n by omega)) (by omega) M5 (hB.keep (congrFun (f1 34 (by decide)) 0) (fun r h1 h2 => f1 r (by omega))) (fun U hU => by rw [f1 48 (by decide)]; exact hT U hU) hU1 (by rw [f1 34 (by decide)]; exact h10) (by rw [f1 34 (by decide)]; exact h11)) (fun r7 M8 hp9 => ?_)
            obtain ⟨rfl, hE1, hE2, hE3⟩ := hp9
            have f4 : ∀ r, r ≠ 46 → M8.1 r = M.1 r := fun r hr => (hE2 r hr).trans (f1 r hr)
            have f5 : ∀ j, j < 6 * row + 6 → M8.1 46 j = M.1 46 j := fun j hj => (hE3 j (by omega)).trans (f2 j hj)
            have f6 : M8.2 = M.2 := hE1.trans f3
            have hBc : m_bank n fa sh M8 := hB.keep (congrFun (f4 34 (by decide)) 0) (fun r h1 h2 => f4 r (by omega))
            show q_Wp X _ 107 (56, [some (.ref 34), some (.int (nI S)), some (.int (nI row)), some (.int (q_b is)), some (.int (nI i)), z], [.int (q_b (s_mr n fa cn a b 2 (S ||| 2 ^ i) (n_mul u fa i true)))], M8) _
            refine q_Wp.gn 5 (c' := (63, [some (.ref 34), some (.int (nI S)), some (.int (nI row)), some (.int (q_b is)), some (.int (nI i)), some (.int (q_b (s_mr n fa cn a b 2 (S ||| 2 ^ i) (n_mul u fa i true))))], [.int ((nI row) + 1), .int (nI row), .ref 34], M8)) rfl ?_
            refine q_Wp.cv (c' := (63, [some (.ref 34), some (.int (nI S)), some (.int (nI row)), some (.int (q_b is)), some (.int (nI i)), some (.int (q_b (s_mr n fa cn a b 2 (S ||| 2 ^ i) (n_mul u fa i true))))], [.int (nI (row + 1)), .int (nI row), .ref 34], M8)) (by first | rw [nI_1] | simp only [nI_1]) ?_
            refine q_Wp.gp 2 (mj := 90) (as := [.ref 34, .int (nI row), .int (nI (row + 1)), .int (nI i), .int 0]) (pc := 69) (ls := [some (.ref 34), some (.int (nI S)), some (.int (nI row)), some (.int (q_b is)), some (.int (nI i)), some (.int (q_b (s_mr n fa cn a b 2 (S ||| 2 ^ i) (n_mul u fa i true))))]) (st := []) (M := M8) rfl (c_weighs X (d + 4) (a := row) (b := row + 1) (k := i) (by omega) (by omega) (by omega) (by omega) 0 M8) (fun r10 M11 hp12 => ?_)
            obtain ⟨rfl, hA2, hBx2, hC2, hD2⟩ := hp12
            have k1 : ∀ r, r ≠ 46 → M11.1 r = M.1 r := fun r hr => (hBx2 r hr).trans (f4 r hr)
            have k2 : ∀ j, j < 6 * row + 6 → M11.1 46 j = M.1 46 j := fun j hj => (hC2 j (by omega)).trans (f5 j hj)
            have k3 : M11.2 = M.2 := hA2.trans f6
            have hU2 : ∀ s, s < 6 → M11.1 46 (6 * (row + 1) + s) = nI (n_mul u fa i false s) := fun s hs => by rw [hD2 s hs, f5 (6 * row + s) (by omega), hU s hs]; exact (congrArg _ (s_facM_N hO hBc (show i < n by omega) hs false)).trans (pk_mul _ _)
            show q_Wp X _ 107 (69, [some (.ref 34), some (.int (nI S)), some (.int (nI row)), some (.int (q_b is)), some (.int (nI i)), some (.int (q_b (s_mr n fa cn a b 2 (S ||| 2 ^ i) (n_mul u fa i true))))], [], M11) _
            refine q_Wp.ge0 1 (b := (s_mr n fa cn a b 2 (S ||| 2 ^ i) (n_mul u fa i true))) (c1 := (94, [some (.ref 34), some (.int (nI S)), some (.int (nI row)), some (.int (q_b is)), some (.int (nI i)), some (.int (q_b (s_mr n fa cn a b 2 (S ||| 2 ^ i) (n_mul u fa i true))))], [], M11)) (c2 := (74, [some (.ref 34), some (.int (nI S)), some (.int (nI row)), some (.int (q_b is)), some (.int (nI i)), some (.int (q_b (s_mr n fa cn a b 2 (S ||| 2 ^ i) (n_mul u fa i true))))], [], M11)) rfl (fun g13 => ?_) (fun g13 => ?_)
            · -- ffft
              refine q_Wp.gn 2 (c' := (99, [some (.ref 34), some (.int (nI S)), some (.int (nI row)), some (.int 0), some (.int ((nI i) + 1)), some (.int (q_b (s_mr n fa cn a b 2 (S ||| 2 ^ i) (n_mul u fa i true))))], [], M11)) rfl ?_
              refine q_Wp.cv (c' := (99, [some (.ref 34), some (.int (nI S)), some (.int (nI row)), some (.int 0), some (.int (nI (i + 1))), some (.int (q_b (s_mr n fa cn a b 2 (S ||| 2 ^ i) (n_mul u fa i true))))], [], M11)) (by first | rw [nI_1] | simp only [nI_1]) ?_
              refine q_Wp.gn 0 (c' := (9, [some (.ref 34), some (.int (nI S)), some (.int (nI row)), some (.int 0), some (.int (nI (i + 1))), some (.int (q_b (s_mr n fa cn a b 2 (S ||| 2 ^ i) (n_mul u fa i true))))], [], M11)) rfl ?_
              exact ih (i + 1) false _ _ (by omega) k3 k1 k2 (by rw [s_any, ← Bool.or_assoc, ← his, g2, s_mq, g3, g13]; rfl) (by omega)
            · -- ffff
              refine q_Wp.gn 4 (c' := (80, [some (.ref 34), some (.int (nI S)), some (.int (nI row)), some (.int (q_b is)), some (.int (nI i)), some (.int (q_b (s_mr n fa cn a b 2 (S ||| 2 ^ i) (n_mul u fa i true))))], [.int (1 <<< ((nI i) &&& 31)), .int (nI S), .ref 34], M11)) rfl ?_
              refine q_Wp.cv (c' := (80, [some (.ref 34), some (.int (nI S)), some (.int (nI row)), some (.int (q_b is)), some (.int (nI i)), some (.int (q_b (s_mr n fa cn a b 2 (S ||| 2 ^ i) (n_mul u fa i true))))], [.int (nI (2 ^ i)), .int (nI S), .ref 34], M11)) (by first | rw [s_1shl i (by omega)] | simp only [s_1shl i (by omega)]) ?_
              refine q_Wp.gn 0 (c' := (81, [some (.ref 34), some (.int (nI S)), some (.int (nI row)), some (.int (q_b is)), some (.int (nI i)), some (.int (q_b (s_mr n fa cn a b 2 (S ||| 2 ^ i) (n_mul u fa i true))))], [.int ((nI S) ||| (nI (2 ^ i))), .ref 34], M11)) rfl ?_
              refine q_Wp.cv (c' := (81, [some (.ref 34), some (.int (nI S)), some (.int (nI row)), some (.int (q_b is)), some (.int (nI i)), some (.int (q_b (s_mr n fa cn a b 2 (S ||| 2 ^ i) (n_mul u fa i true))))], [.int (nI (S ||| 2 ^ i)), .ref 34], M11)) (by first | rw [s_or] | simp only [s_or]) ?_
              refine q_Wp.gn 2 (c' := (84, [some (.ref 34), some (.int (nI S)), some (.int (nI row)), some (.int (q_b is)), some (.int (nI i)), some (.int (q_b (s_mr n fa cn a b 2 (S ||| 2 ^ i) (n_mul u fa i true))))], [.int ((nI row) + 1), .int (nI (S ||| 2 ^ i)), .ref 34], M11)) rfl ?_
              refine q_Wp.cv (c' := (84, [some (.ref 34), some (.int (nI S)), some (.int (nI row)), some (.int (q_b is)), some (.int (nI i)), some (.int (q_b (s_mr n fa cn a b 2 (S ||| 2 ^ i) (n_mul u fa i true))))], [.int (nI (row + 1)), .int (nI (S ||| 2 ^ i)), .ref 34], M11)) (by first | rw [nI_1] | simp only [nI_1]) ?_
              refine q_Wp.gp 0 (mj := 106) (as := [.ref 34, .int (nI (S ||| 2 ^ i)), .int (nI (row + 1))]) (pc := 87) (ls := [some (.ref 34), some (.int (nI S)), some (.int (nI row)), some (.int (q_b is)), some (.int (nI i)), some (.int (q_b (s_mr n fa cn a b 2 (S ||| 2 ^ i) (n_mul u fa i true))))]) (st := []) (M := M11) rfl (c_reachesTwo X d (n := n) (S := S ||| 2 ^ i) (row := row + 1) (u := n_mul u fa i false) (fa := fa) (sh := sh) (cn := cn) (a := a) (b := b) hO (s_orlt hS (show i < n by omega)) (by omega) M11 (hB.keep (congrFun (k1 34 (by decide)) 0) (fun r h1 h2 => k1 r (by omega))) (fun U hU => by rw [k1 48 (by decide)]; exact hT U hU) hU2 (by rw [k1 34 (by decide)]; exact h10) (by rw [k1 34 (by decide)]; exact h11)) (fun r14 M15 hp16 => ?_)
              obtain ⟨rfl, hG1, hG2, hG3⟩ := hp16
              have l1 : ∀ r, r ≠ 46 → M15.1 r = M.1 r := fun r hr => (hG2 r hr).trans (k1 r hr)
              have l2 : ∀ j, j < 6 * row + 6 → M15.1 46 j = M.1 46 j := fun j hj => (hG3 j (by omega)).trans (k2 j hj)
              have l3 : M15.2 = M.2 := hG1.trans k3
              show q_Wp X _ 107 (87, [some (.ref 34), some (.int (nI S)), some (.int (nI row)), some (.int (q_b is)), some (.int (nI i)), some (.int (q_b (s_mr n fa cn a b 2 (S ||| 2 ^ i) (n_mul u fa i true))))], [.int (q_b (s_mr n fa cn a b 2 (S ||| 2 ^ i) (n_mul u fa i false)))], M15) _
              refine q_Wp.ge0 0 (b := (s_mr n fa cn a b 2 (S ||| 2 ^ i) (n_mul u fa i false))) (c1 := (94, [some (.ref 34), some (.int (nI S)), some (.int (nI row)), some (.int (q_b is)), some (.int (nI i)), some (.int (q_b (s_mr n fa cn a b 2 (S ||| 2 ^ i) (n_mul u fa i true))))], [], M15)) (c2 := (90, [some (.ref 34), some (.int (nI S)), some (.int (nI row)), some (.int (q_b is)), some (.int (nI i)), some (.int (q_b (s_mr n fa cn a b 2 (S ||| 2 ^ i) (n_mul u fa i true))))], [], M15)) rfl (fun g17 => ?_) (fun g17 => ?_)
              · -- fffft
                refine q_Wp.gn 2 (c' := (99, [some (.ref 34), some (.int (nI S)), some (.int (nI row)), some (.int 0), some (.int ((nI i) + 1)), some (.int (q_b (s_mr n fa cn a b 2 (S ||| 2 ^ i) (n_mul u fa i true))))], [], M15)) rfl ?_
                refine q_Wp.cv (c' := (99, [some (.ref 34), some (.int (nI S)), some (.int (nI row)), some (.int 0), some (.int (nI (i + 1))), some (.int (q_b (s_mr n fa cn a b 2 (S ||| 2 ^ i) (n_mul u fa i true))))], [], M15)) (by first | rw [nI_1] | simp only [nI_1]) ?_
                refine q_Wp.gn 0 (c' := (9, [some (.ref 34), some (.int (nI S)), some (.int (nI row)), some (.int 0), some (.int (nI (i + 1))), some (.int (q_b (s_mr n fa cn a b 2 (S ||| 2 ^ i) (n_mul u fa i true))))], [], M15)) rfl ?_
                exact ih (i + 1) false _ _ (by omega) l3 l1 l2 (by rw [s_any, ← Bool.or_assoc, ← his, g2, s_mq, g3, g13, g17]; rfl) (by omega)
              · -- fffff
                refine q_Wp.gn 3 (c' := (99, [some (.ref 34), some (.int (nI S)), some (.int (nI row)), some (.int 1), some (.int ((nI i) + 1)), some (.int (q_b (s_mr n fa cn a b 2 (S ||| 2 ^ i) (n_mul u fa i true))))], [], M15)) rfl ?_
                refine q_Wp.cv (c' := (99, [some (.ref 34), some (.int (nI S)), some (.int (nI row)), some (.int 1), some (.int (nI (i + 1))), some (.int (q_b (s_mr n fa cn a b 2 (S ||| 2 ^ i) (n_mul u fa i true))))], [], M15)) (by first | rw [nI_1] | simp only [nI_1]) ?_
                refine q_Wp.gn 0 (c' := (9, [some (.ref 34), some (.int (nI S)), some (.int (nI row)), some (.int 1), some (.int (nI (i + 1))), some (.int (q_b (s_mr n fa cn a b 2 (S ||| 2 ^ i) (n_mul u fa i true))))], [], M15)) rfl ?_
                exact ih (i + 1) true _ _ (by omega) l3 l1 l2 (by rw [s_any, ← Bool.or_assoc, ← his, g2, s_mq, g3, g13, g17]; rfl) (by omega)
  refine q_Wp.gc 2 (mj := 89) (as := [.ref 34, .int (nI row)]) (pc := 5) (ls := [some (.ref 34), some (.int (nI S)), some (.int (nI row)), none, none, none]) (st := []) (M := M) (r1 := some (.int (q_b (s_sureM (s_row M row) (M.1 34 10) (M.1 34 11))))) (M1 := M) rfl (c_isSure X (d + 3) (r := row) (by omega) M) ?_
  show q_Wp X _ 107 (5, [some (.ref 34), some (.int (nI S)), some (.int (nI row)), none, none, none], [.int (q_b (s_sureM (s_row M row) (M.1 34 10) (M.1 34 11)))], M) _
  refine q_Wp.cv (c' := (5, [some (.ref 34), some (.int (nI S)), some (.int (nI row)), none, none, none], [.int (q_b (s_sureMN u a b))], M)) (by first | rw [hsu] | simp only [hsu]) ?_
  refine q_Wp.gn 2 (c' := (9, [some (.ref 34), some (.int (nI S)), some (.int (nI row)), some (.int (q_b (s_sureMN u a b))), some (.int 0), none], [], M)) rfl ?_
  exact key (n + 1) 0 _ _ M (by omega) rfl (fun _ _ => rfl) (fun _ _ => rfl) (by rw [s_any, Bool.or_false]) (by omega)

