/-! Links: gains, sureness, reach and chances, on both sides. -/
def n_sum (f : Nat → Nat) : Nat := 0 + f 0 + f 1 + f 2 + f 3 + f 4 + f 5
def n_sqr (f : Nat → Nat) : Nat := 0 + f 0 * f 0 + f 1 * f 1 + f 2 * f 2 + f 3 * f 3 + f 4 * f 4 + f 5 * f 5
theorem n_sum_le {f : Nat → Nat} {b : Nat} (h : ∀ s, s < 6 → f s ≤ b) : n_sum f ≤ 6 * b := by
  unfold n_sum
  have := h 0 (by decide); have := h 1 (by decide); have := h 2 (by decide); have := h 3 (by decide); have := h 4 (by decide); have := h 5 (by decide)
  omega
theorem n_sum_pos {f : Nat → Nat} (h : 1 ≤ f 0) : 0 < n_sum f := by
  unfold n_sum
  omega
theorem n_sqr_le {f : Nat → Nat} {b : Nat} (h : ∀ s, s < 6 → f s ≤ b) : n_sqr f ≤ 6 * (b * b) := by
  unfold n_sqr
  have h0 := Nat.mul_le_mul (h 0 (by decide)) (h 0 (by decide)); have h1 := Nat.mul_le_mul (h 1 (by decide)) (h 1 (by decide)); have h2 := Nat.mul_le_mul (h 2 (by decide)) (h 2 (by decide)); have h3 := Nat.mul_le_mul (h 3 (by decide)) (h 3 (by decide)); have h4 := Nat.mul_le_mul (h 4 (by decide)) (h 4 (by decide)); have h5 := Nat.mul_le_mul (h 5 (by decide)) (h 5 (by decide))
  omega
theorem s_sum_N {f : Nat → Int32} {g : Nat → Nat} (h : ∀ s, s < 6 → f s = nI (g s)) : s_sum f = nI (n_sum g) := by
  unfold s_sum n_sum
  rw [h 0 (by decide), h 1 (by decide), h 2 (by decide), h 3 (by decide), h 4 (by decide), h 5 (by decide)]
  rw [show (0 : Int32) = nI 0 from rfl, nI_add, nI_add, nI_add, nI_add, nI_add, nI_add]
theorem s_sumL_N {f : Nat → Int32} {g : Nat → Nat} (h : ∀ s, s < 6 → f s = nI (g s)) (hb : ∀ s, s < 6 → g s < 2 ^ 31) : s_sumL f = lN (n_sum g) := by
  unfold s_sumL n_sum
  rw [h 0 (by decide), h 1 (by decide), h 2 (by decide), h 3 (by decide), h 4 (by decide), h 5 (by decide), nI_l (hb 0 (by decide)), nI_l (hb 1 (by decide)), nI_l (hb 2 (by decide)), nI_l (hb 3 (by decide)), nI_l (hb 4 (by decide)), nI_l (hb 5 (by decide))]
  rw [show (0 : Int64) = lN 0 from rfl, lN_add, lN_add, lN_add, lN_add, lN_add, lN_add]
theorem s_sqrL_N {f : Nat → Int32} {g : Nat → Nat} (h : ∀ s, s < 6 → f s = nI (g s)) (hb : ∀ s, s < 6 → g s < 2 ^ 31) : s_sqrL f = lN (n_sqr g) := by
  unfold s_sqrL n_sqr
  rw [h 0 (by decide), h 1 (by decide), h 2 (by decide), h 3 (by decide), h 4 (by decide), h 5 (by decide), nI_l (hb 0 (by decide)), nI_l (hb 1 (by decide)), nI_l (hb 2 (by decide)), nI_l (hb 3 (by decide)), nI_l (hb 4 (by decide)), nI_l (hb 5 (by decide))]
  rw [show (0 : Int64) = lN 0 from rfl, lN_mul, lN_mul, lN_mul, lN_mul, lN_mul, lN_mul, lN_add, lN_add, lN_add, lN_add, lN_add, lN_add]
theorem s_wf_N {u f : Nat → Int32} {rr : Int32} {v k : Nat → Nat} {s : Nat} (h : u s = nI (v s)) (hv : v s < 2 ^ 31) (hk : s_fac f s rr = nI (k s)) (hkb : k s < 2 ^ 31) : s_wf u f rr s = lN (v s * k s) := by
  unfold s_wf
  rw [h, hk, nI_l hv, nI_l hkb, lN_mul]
theorem s_sumB_N {u f : Nat → Int32} {rr : Int32} {g : Nat → Nat} (h : ∀ s, s < 6 → s_wf u f rr s = lN (g s)) : s_sumB u f rr = lN (n_sum g) := by
  unfold s_sumB n_sum
  rw [h 0 (by decide), h 1 (by decide), h 2 (by decide), h 3 (by decide), h 4 (by decide), h 5 (by decide)]
  rw [show (0 : Int64) = lN 0 from rfl, lN_add, lN_add, lN_add, lN_add, lN_add, lN_add]
theorem s_sqrB_N {u f : Nat → Int32} {rr : Int32} {g : Nat → Nat} (h : ∀ s, s < 6 → s_wf u f rr s = lN (g s)) : s_sqrB u f rr = lN (n_sqr g) := by
  unfold s_sqrB n_sqr
  rw [h 0 (by decide), h 1 (by decide), h 2 (by decide), h 3 (by decide), h 4 (by decide), h 5 (by decide)]
  rw [show (0 : Int64) = lN 0 from rfl, lN_mul, lN_mul, lN_mul, lN_mul, lN_mul, lN_mul, lN_add, lN_add, lN_add, lN_add, lN_add, lN_add]
def n_top (u : Nat → Nat) (fa : Nat → Nat → Nat) (q : Nat) : Nat := if fa q 0 = 4 then 5 * n_sqr u else n_sqr (n_mul u fa q true) * n_sum (n_mul u fa q false) + n_sqr (n_mul u fa q false) * n_sum (n_mul u fa q true)
def n_bot (u : Nat → Nat) (fa : Nat → Nat → Nat) (q : Nat) : Nat := if fa q 0 = 4 then n_sum u else n_sum (n_mul u fa q true) * n_sum (n_mul u fa q false)
theorem n_fac_b {n : Nat} {fa : Nat → Nat → Nat} (hO : ok_bank n fa) {q s : Nat} (hq : q < n) (hs : s < 6) (rg : Bool) : 1 ≤ n_fac fa q rg s ∧ n_fac fa q rg s ≤ 4 := by
  have h := (hO.2 q hq).2.2.2.2.2 s hs
  unfold n_fac
  split
  · omega
  · split <;> omega
theorem n_mul_b {n : Nat} {fa : Nat → Nat → Nat} (hO : ok_bank n fa) {q s b : Nat} {u : Nat → Nat} (hq : q < n) (hs : s < 6) (h : 1 ≤ u s ∧ u s ≤ b) (rg : Bool) : 1 ≤ n_mul u fa q rg s ∧ n_mul u fa q rg s ≤ b * 4 := by
  have h1 := n_fac_b hO hq hs rg
  unfold n_mul
  exact ⟨Nat.mul_le_mul h.1 h1.1, Nat.mul_le_mul h.2 h1.2⟩
theorem n_top_lt {n : Nat} {fa : Nat → Nat → Nat} (hO : ok_bank n fa) {q : Nat} {u : Nat → Nat} (hq : q < n) (hu : ∀ s, s < 6 → 1 ≤ u s ∧ u s ≤ 12288) : n_top u fa q < 9223372036854775808 := by
  unfold n_top
  have h1 : ∀ rg, n_sqr (n_mul u fa q rg) ≤ 6 * (49152 * 49152) := fun rg => n_sqr_le (fun s hs => (n_mul_b hO hq hs (hu s hs) rg).2)
  have h2 : ∀ rg, n_sum (n_mul u fa q rg) ≤ 6 * 49152 := fun rg => n_sum_le (fun s hs => (n_mul_b hO hq hs (hu s hs) rg).2)
  have h3 : n_sqr u ≤ 6 * (12288 * 12288) := n_sqr_le (fun s hs => (hu s hs).2)
  have h4 := Nat.mul_le_mul (h1 true) (h2 false)
  have h5 := Nat.mul_le_mul (h1 false) (h2 true)
  split <;> omega
theorem n_bot_lt {n : Nat} {fa : Nat → Nat → Nat} (hO : ok_bank n fa) {q : Nat} {u : Nat → Nat} (hq : q < n) (hu : ∀ s, s < 6 → 1 ≤ u s ∧ u s ≤ 12288) : 0 < n_bot u fa q ∧ n_bot u fa q < 2 ^ 50 := by
  unfold n_bot
  have h2 : ∀ rg, n_sum (n_mul u fa q rg) ≤ 6 * 49152 := fun rg => n_sum_le (fun s hs => (n_mul_b hO hq hs (hu s hs) rg).2)
  have h3 : n_sum u ≤ 6 * 12288 := n_sum_le (fun s hs => (hu s hs).2)
  have h4 := Nat.mul_le_mul (h2 true) (h2 false)
  have p1 : 0 < n_sum u := n_sum_pos (hu 0 (by decide)).1
  have p2 : ∀ rg, 0 < n_sum (n_mul u fa q rg) := fun rg => n_sum_pos (n_mul_b hO hq (by decide) (hu 0 (by decide)) rg).1
  have p3 := Nat.mul_pos (p2 true) (p2 false)
  split <;> omega
theorem n_fins {n : Nat} {fa : Nat → Nat → Nat} (hO : ok_bank n fa) {u : Nat → Nat} (hu : ∀ s, s < 6 → 1 ≤ u s ∧ u s ≤ 12288) : s_fins n (n_top u fa) (n_bot u fa) := by
  intro q p hq hp
  exact s_fin_2 50 _ _ _ _ (n_bot_lt hO hq hu).1 (n_bot_lt hO hq hu).2
theorem n_xgain {n t : Nat} {fa : Nat → Nat → Nat} {sh : Nat → Int32} {u : Nat → Nat} {M : q_M} (hO : ok_bank n fa) (hB : x_bank n fa sh M) (hu : ∀ s, s < 6 → 1 ≤ u s ∧ u s ≤ 12288) (hU : ∀ s, s < 6 → M.1 (27 + t) s = nI (u s)) : x_gain n t (n_top u fa) (n_bot u fa) M := by
  intro q hq
  have hT := n_top_lt hO hq hu
  have hBt := n_bot_lt hO hq hu
  have hw : ∀ rg s, s < 6 → s_wf (M.1 (27 + t)) (M.1 (3 + q)) (q_b rg) s = lN (n_mul u fa q rg s) := by
    intro rg s hs
    have h1 := hu s hs
    have h2 := n_fac_b hO hq hs rg
    exact s_wf_N (v := u) (k := n_fac fa q rg) (hU s hs) (by omega) (s_fac_N hO hB hq hs rg) (by omega)
  have hk : M.1 (3 + q) 0 = nI (fa q 0) := (hB.2 q hq).1 0 (by decide) (by decide)
  have hk5 := (hO.2 q hq).1
  have hkd : M.1 (3 + q) 0 = 4 ↔ fa q 0 = 4 := by rw [hk]; exact nI_eq (a := fa q 0) (b := 4) (by omega) (by decide)
  have a1 : s_sqrB (M.1 (27 + t)) (M.1 (3 + q)) 1 = lN (n_sqr (n_mul u fa q true)) := s_sqrB_N (hw true)
  have a2 : s_sqrB (M.1 (27 + t)) (M.1 (3 + q)) 0 = lN (n_sqr (n_mul u fa q false)) := s_sqrB_N (hw false)
  have a3 : s_sumB (M.1 (27 + t)) (M.1 (3 + q)) 1 = lN (n_sum (n_mul u fa q true)) := s_sumB_N (hw true)
  have a4 : s_sumB (M.1 (27 + t)) (M.1 (3 + q)) 0 = lN (n_sum (n_mul u fa q false)) := s_sumB_N (hw false)
  refine ⟨?_, hT, ?_, by omega, hBt.1⟩
  · unfold s_top n_top
    rw [a1, a2, a3, a4]
    by_cases e : fa q 0 = 4
    · have e2 : n_mul u fa q true = u := by funext s; unfold n_mul n_fac; rw [if_pos e, Nat.mul_one]
      rw [if_pos (hkd.mpr e), if_pos e, e2, show (5 : Int64) = lN 5 from rfl, lN_mul]
    · rw [if_neg (fun z => e (hkd.mp z)), if_neg e, lN_mul, lN_mul, lN_add]
  · unfold s_bot n_bot
    rw [a3, a4]
    by_cases e : fa q 0 = 4
    · have e2 : n_mul u fa q true = u := by funext s; unfold n_mul n_fac; rw [if_pos e, Nat.mul_one]
      rw [if_pos (hkd.mpr e), if_pos e, e2]
    · rw [if_neg (fun z => e (hkd.mp z)), if_neg e, lN_mul]
theorem n_mgain {n t : Nat} {fa : Nat → Nat → Nat} {sh : Nat → Int32} {u : Nat → Nat} {M : q_M} (hO : ok_bank n fa) (hB : m_bank n fa sh M) (hu : ∀ s, s < 6 → 1 ≤ u s ∧ u s ≤ 12288) (hU : ∀ s, s < 6 → M.1 46 (6 * t + s) = nI (u s)) : m_gain n t (n_top u fa) (n_bot u fa) M := by
  intro q hq
  have hT := n_top_lt hO hq hu
  have hBt := n_bot_lt hO hq hu
  have hw : ∀ rg s, s < 6 → s_row M t s * s_facM (M.1 35 q) (M.1 40 (6 * q + s)) (q_b rg) = nI (n_mul u fa q rg s) := by
    intro rg s hs
    rw [s_facM_N hO hB hq hs rg, show s_row M t s = nI (u s) from hU s hs, pk_mul]
    rfl
  have hl : ∀ rg s, s < 6 → n_mul u fa q rg s < 2 ^ 31 := fun rg s hs => by have := (n_mul_b hO hq hs (hu s hs) rg).2; omega
  have hk : M.1 35 q = nI (fa q 0) := (hB.2 q hq).1
  have hk5 := (hO.2 q hq).1
  have hkd : M.1 35 q = 4 ↔ fa q 0 = 4 := by rw [hk]; exact nI_eq (a := fa q 0) (b := 4) (by omega) (by decide)
  have a1 : s_sqrL (fun s => s_row M t s * s_facM (M.1 35 q) (M.1 40 (6 * q + s)) 1) = lN (n_sqr (n_mul u fa q true)) := s_sqrL_N (hw true) (hl true)
  have a2 : s_sqrL (fun s => s_row M t s * s_facM (M.1 35 q) (M.1 40 (6 * q + s)) 0) = lN (n_sqr (n_mul u fa q false)) := s_sqrL_N (hw false) (hl false)
  have a3 : s_sumL (fun s => s_row M t s * s_facM (M.1 35 q) (M.1 40 (6 * q + s)) 1) = lN (n_sum (n_mul u fa q true)) := s_sumL_N (hw true) (hl true)
  have a4 : s_sumL (fun s => s_row M t s * s_facM (M.1 35 q) (M.1 40 (6 * q + s)) 0) = lN (n_sum (n_mul u fa q false)) := s_sumL_N (hw false) (hl false)
  have a5 : s_sqrL (s_row M t) = lN (n_sqr u) := s_sqrL_N hU (fun s hs => by have := (hu s hs).2; omega)
  have a6 : s_sumL (s_row M t) = lN (n_sum u) := s_sumL_N hU (fun s hs => by have := (hu s hs).2; omega)
  refine ⟨?_, hT, ?_, by omega, hBt.1⟩
  · unfold s_topM n_top
    dsimp only
    rw [a1, a2, a3, a4, a5]
    by_cases e : fa q 0 = 4
    · rw [if_pos (hkd.mpr e), if_pos e, show (5 : Int64) = lN 5 from rfl, lN_mul]
    · rw [if_neg (fun z => e (hkd.mp z)), if_neg e, lN_mul, lN_mul, lN_add]
  · unfold s_botM n_bot
    dsimp only
    rw [a3, a4, a6]
    by_cases e : fa q 0 = 4
    · rw [if_pos (hkd.mpr e), if_pos e]
    · rw [if_neg (fun z => e (hkd.mp z)), if_neg e, lN_mul]
/-- the greatest -/
def n_max (u : Nat → Nat) : Nat → Nat
  | 0 => 0
  | i + 1 => if u i ≤ n_max u i then n_max u i else u i
theorem n_max_le {u : Nat → Nat} {b : Nat} : ∀ {i : Nat}, i ≤ 6 → (∀ s, s < 6 → u s ≤ b) → n_max u i ≤ b
  | 0, _, _ => Nat.zero_le _
  | i + 1, hi, h => by
    rw [n_max]
    split
    · exact n_max_le (by omega) h
    · exact h i (by omega)
theorem s_bst_N {u : Nat → Nat} {f : Nat → Int32} (hf : ∀ s, s < 6 → f s = nI (u s)) (hb : ∀ s, s < 6 → u s ≤ 12288) : ∀ (i : Nat), i + 1 ≤ 6 → u (s_bst f (i + 1)) = n_max u (i + 1)
  | 0, _ => by
    rw [s_bst_1, n_max]
    split <;> simp_all [n_max]
  | i + 1, hi => by
    have ih := s_bst_N hf hb i (by omega)
    have h1 := s_bst_lt f i
    have h2 := hb (i + 1) (by omega)
    have h3 := hb (s_bst f (i + 1)) (by omega)
    rw [s_bst, n_max, ← ih, hf (i + 1) (by omega), hf (s_bst f (i + 1)) (by omega)]
    by_cases e : u (i + 1) ≤ u (s_bst f (i + 1))
    · rw [if_pos ((nI_leI (by omega) (by omega)).mpr e), if_pos e]
    · rw [if_neg (fun z => e ((nI_leI (by omega) (by omega)).mp z)), if_neg e]
theorem s_max_N {u : Nat → Nat} {f : Nat → Int32} (hf : ∀ s, s < 6 → f s = nI (u s)) (hb : ∀ s, s < 6 → u s ≤ 12288) : ∀ (i : Nat), i ≤ 6 → s_max f i = nI (n_max u i)
  | 0, _ => rfl
  | i + 1, hi => by
    have h2 := hb i (by omega)
    have h3 := n_max_le (u := u) (b := 12288) (i := i) (by omega) hb
    rw [s_max, n_max, s_max_N hf hb i (by omega), hf i (by omega)]
    by_cases e : u i ≤ n_max u i
    · rw [if_pos ((nI_leI (by omega) (by omega)).mpr e), if_pos e]
    · rw [if_neg (fun z => e ((nI_leI (by omega) (by omega)).mp z)), if_neg e]
/-- sure, as numbers -/
def n_sure (u : Nat → Nat) (a b : Nat) : Bool := !decide (n_max u 6 * b < a * n_sum u)
theorem n_sure_b {u : Nat → Nat} {a b : Nat} (hb : ∀ s, s < 6 → u s ≤ 12288) (ha : a ≤ 20) (hb2 : b ≤ 20) : n_max u 6 * b < 2 ^ 31 ∧ a * n_sum u < 2 ^ 31 := by
  have h1 := Nat.mul_le_mul (n_max_le (u := u) (b := 12288) (i := 6) (by decide) hb) hb2
  have h2 := Nat.mul_le_mul ha (n_sum_le (f := u) (b := 12288) hb)
  omega
theorem s_sureX_N {u : Nat → Nat} {f : Nat → Int32} {a b : Nat} (hf : ∀ s, s < 6 → f s = nI (u s)) (hb : ∀ s, s < 6 → u s ≤ 12288) (ha : a ≤ 20) (hb2 : b ≤ 20) : s_sureX f (nI a) (nI b) = n_sure u a b := by
  obtain ⟨h1, h2⟩ := n_sure_b (u := u) hb ha hb2
  unfold s_sureX n_sure
  rw [hf _ (s_bst_lt f 5), s_bst_N hf hb 5 (by decide), s_sum_N hf, pk_mul, pk_mul]
  exact congrArg _ (s_dec_c (nI_ltI h1 h2))
theorem s_sureM_N {u : Nat → Nat} {f : Nat → Int32} {a b : Nat} (hf : ∀ s, s < 6 → f s = nI (u s)) (hb : ∀ s, s < 6 → u s ≤ 12288) (ha : a ≤ 20) (hb2 : b ≤ 20) : s_sureM f (nI a) (nI b) = n_sure u a b := by
  obtain ⟨h1, h2⟩ := n_sure_b (u := u) hb ha hb2
  have h3 := n_max_le (u := u) (b := 12288) (i := 6) (by decide) hb
  unfold s_sureM n_sure
  rw [s_max_N hf hb 6 (by decide), s_sumL_N hf (fun s hs => by have := hb s hs; omega), nI_l (by omega), nI_l (by omega), nI_l (by omega), lN_mul, lN_mul]
  exact congrArg _ (s_dec_c (lgN_lt (by omega) (by omega)))
theorem s_any_f {p : Nat → Bool} {n : Nat} (h : ∀ i, i < n → p i = false) : s_any n p = false := by
  cases hc : s_any n p with
  | false => rfl
  | true =>
    obtain ⟨i, hi, hp⟩ := s_any_iff.mp hc
    rw [h i hi] at hp
    cases hp
theorem n_p4 {r : Nat} (h : r ≤ 6) : 3 * 4 ^ r ≤ 12288 := by
  have : 4 ^ r ≤ 4 ^ 6 := Nat.pow_le_pow_right (by decide) h
  omega
/-- reach is the same on both sides -/
theorem s_rch_mr {n : Nat} {fa : Nat → Nat → Nat} {ft : Nat → Bool} {a b : Nat} (hO : ok_bank n fa) (hF : ∀ U, U < 2 ^ n → ft U = true → s_pc n U ≤ 6) (ha : a ≤ 20) (hb : b ≤ 20) : ∀ (k row A : Nat) (u : Nat → Nat), row ≤ 6 → A < 2 ^ n → s_pc n A = row → s_og n fa A → (∀ s, s < 6 → 1 ≤ u s ∧ u s ≤ 3 * 4 ^ row) → s_rch n fa ft (nI a) (nI b) k row A u = s_mr n fa (s_can ft n) (nI a) (nI b) k A u := by
  intro k
  induction k with
  | zero =>
    intro row A u hr hA hp hg hu
    have hp4 := n_p4 hr
    have hb' : ∀ s, s < 6 → u s ≤ 12288 := fun s hs => Nat.le_trans (hu s hs).2 hp4
    show s_sureX (fun s => nI (u s)) (nI a) (nI b) = s_sureM (fun s => nI (u s)) (nI a) (nI b)
    rw [s_sureX_N (fun _ _ => rfl) hb' ha hb, s_sureM_N (fun _ _ => rfl) hb' ha hb]
  | succ k ih =>
    intro row A u hr hA hp hg hu
    have hp4 := n_p4 hr
    have hb' : ∀ s, s < 6 → u s ≤ 12288 := fun s hs => Nat.le_trans (hu s hs).2 hp4
    have e0 : s_sureN u (nI a) (nI b) = s_sureMN u (nI a) (nI b) := by
      show s_sureX (fun s => nI (u s)) (nI a) (nI b) = s_sureM (fun s => nI (u s)) (nI a) (nI b)
      rw [s_sureX_N (fun _ _ => rfl) hb' ha hb, s_sureM_N (fun _ _ => rfl) hb' ha hb]
    have hmay : ∀ q, q < n → s_may n fa (s_can ft n) A q = true → row < 6 ∧ A.testBit q = false ∧ s_pc n (A ||| 2 ^ q) = row + 1 := by
      intro q hq hm
      obtain ⟨m1, m2, _⟩ := s_may_1 hm
      have h1 := s_can_pc hF _ (A ||| 2 ^ q) (Nat.le_refl _) (s_orlt hA hq) m2
      have h2 := s_pc_s hq m1
      exact ⟨by omega, m1, by omega⟩
    rw [s_rch, s_mr, e0]
    congr 1
    by_cases h6 : row < 6
    · rw [decide_eq_true h6, Bool.true_and]
      refine s_any_c (fun q hq => ?_)
      rw [s_xm_b hO hA hg hq]
      cases hm : s_may n fa (s_can ft n) A q with
      | false => rfl
      | true =>
        obtain ⟨_, m1, m2⟩ := hmay q hq hm
        have hu2 : ∀ rg s, s < 6 → 1 ≤ n_mul u fa q rg s ∧ n_mul u fa q rg s ≤ 3 * 4 ^ (row + 1) := by
          intro rg s hs
          have := n_mul_b hO hq hs (hu s hs) rg
          rw [Nat.pow_succ]
          omega
        rw [ih (row + 1) (A ||| 2 ^ q) _ (by omega) (s_orlt hA hq) m2 (s_og_s hg hq hm) (hu2 true), ih (row + 1) (A ||| 2 ^ q) _ (by omega) (s_orlt hA hq) m2 (s_og_s hg hq hm) (hu2 false)]
    · rw [decide_eq_false h6, Bool.false_and]
      refine (s_any_f (fun q hq => ?_)).symm
      cases hm : s_may n fa (s_can ft n) A q with
      | false => rfl
      | true => exact absurd (hmay q hq hm).1 h6
/-- chances, on both sides -/
theorem s_dgN {k : Nat} (hk : k < 2 ^ 31) : s_in (nI k - nI k / 10 * 10) 1 4 = decide (1 ≤ k % 10 ∧ k % 10 ≤ 4) := by
  have h1 : nI k - nI k / 10 * 10 = nI (k % 10) := pk_rem (a := k) (d := 10) hk (by decide) (by decide)
  rw [h1]
  have h2 : k % 10 < 10 := Nat.mod_lt _ (by decide)
  cases hz : s_in (nI (k % 10)) 1 4 with
  | true =>
    obtain ⟨j, j1, j2, j3⟩ := s_in_inv (a := 1) (b := 4) (by decide) (by decide) hz
    have := (nI_eq (a := k % 10) (b := j) (by omega) (by omega)).mp j3
    exact (decide_eq_true (by omega)).symm
  | false =>
    refine (decide_eq_false (fun y => ?_)).symm
    have := s_in_ok (a := k % 10) (b := 1) (c := 4) y.1 y.2 (by decide)
    rw [show s_in (nI (k % 10)) 1 4 = s_in (nI (k % 10)) (nI 1) (nI 4) from rfl, this] at hz
    cases hz
theorem s_neg {c : Int32} (h : c < 0) : s_in (c - c / 10 * 10) 1 4 = false := by
  cases hz : s_in (c - c / 10 * 10) 1 4 with
  | false => rfl
  | true =>
    exfalso
    obtain ⟨j, j1, j2, j3⟩ := s_in_inv (a := 1) (b := 4) (by decide) (by decide) hz
    have hx : c.toInt < 0 := by
      have := Int32.lt_iff_toInt_lt.mp h
      have h0 : (0 : Int32).toInt = 0 := rfl
      omega
    have hlo : -2147483648 ≤ c.toInt := Int32.le_toInt c
    have h10 : (10 : Int32).toInt = 10 := rfl
    obtain ⟨m, hm⟩ : ∃ m : Nat, c.toInt = -(m : Int) := ⟨(-c.toInt).toNat, by omega⟩
    have ht : c.toInt.tdiv 10 = -((m / 10 : Nat) : Int) := by rw [hm, Int.neg_tdiv]; rfl
    have e1 : (c / 10).toInt = c.toInt.tdiv 10 := by
      rw [Int32.toInt_div, h10]
      refine Int.bmod_eq_of_le ?_ ?_ <;> omega
    have e2 : (c / 10 * 10).toInt = c.toInt.tdiv 10 * 10 := by
      rw [Int32.toInt_mul, e1, h10]
      refine Int.bmod_eq_of_le ?_ ?_ <;> omega
    have e3 : (c - c / 10 * 10).toInt = c.toInt - c.toInt.tdiv 10 * 10 := by
      rw [Int32.toInt_sub, e2]
      refine Int.bmod_eq_of_le ?_ ?_ <;> omega
    rw [j3, nI_toInt (by omega)] at e3
    omega
theorem s_ch_M (c : Int32) : s_chM c = s_ch c := by
  unfold s_chM s_ch s_dg
  by_cases h : c < 0
  · rw [s_neg h]
    simp
  · obtain ⟨k, hk, rfl⟩ := nI_of h
    have d1 : nI k / 10 = nI (k / 10) := pk_div (a := k) (d := 10) hk (by decide) (by decide)
    have d2 : nI (k / 10) / 10 = nI (k / 10 / 10) := pk_div (a := k / 10) (d := 10) (by omega) (by decide) (by decide)
    have d3 : nI (k / 10 / 10) / 10 = nI (k / 10 / 10 / 10) := pk_div (a := k / 10 / 10) (d := 10) (by omega) (by decide) (by decide)
    have d4 : nI (k / 10 / 10 / 10) / 10 = nI (k / 10 / 10 / 10 / 10) := pk_div (a := k / 10 / 10 / 10) (d := 10) (by omega) (by decide) (by decide)
    have d5 : nI (k / 10 / 10 / 10 / 10) / 10 = nI (k / 10 / 10 / 10 / 10 / 10) := pk_div (a := k / 10 / 10 / 10 / 10) (d := 10) (by omega) (by decide) (by decide)
    have d6 : nI (k / 10 / 10 / 10 / 10 / 10) / 10 = nI (k / 10 / 10 / 10 / 10 / 10 / 10) := pk_div (a := k / 10 / 10 / 10 / 10 / 10) (d := 10) (by omega) (by decide) (by decide)
    have f0 := s_dgN (k := k) hk
    have f1 := s_dgN (k := k / 10) (by omega)
    have f2 := s_dgN (k := k / 10 / 10) (by omega)
    have f3 := s_dgN (k := k / 10 / 10 / 10) (by omega)
    have f4 := s_dgN (k := k / 10 / 10 / 10 / 10) (by omega)
    have f5 := s_dgN (k := k / 10 / 10 / 10 / 10 / 10) (by omega)
    rw [d1] at f0
    rw [d2] at f1
    rw [d3] at f2
    rw [d4] at f3
    rw [d5] at f4
    rw [d6] at f5
    rw [d1, d2, d3, d4, d5, d6, f0, f1, f2, f3, f4, f5]
    have g1 : decide (nI (k / 10 / 10 / 10 / 10 / 10 / 10) = 0) = decide (k / 10 / 10 / 10 / 10 / 10 / 10 = 0) := s_dec_c (nI_eq (a := k / 10 / 10 / 10 / 10 / 10 / 10) (b := 0) (by omega) (by decide))
    have g2 : s_in (nI k) 111111 444444 = decide (111111 ≤ k ∧ k ≤ 444444) := by
      cases hz : s_in (nI k) 111111 444444 with
      | true =>
        obtain ⟨j, j1, j2, j3⟩ := s_in_inv (a := 111111) (b := 444444) (by decide) (by decide) hz
        have := (nI_eq (a := k) (b := j) (by omega) (by omega)).mp j3
        exact (decide_eq_true (by omega)).symm
      | false =>
        refine (decide_eq_false (fun y => ?_)).symm
        have := s_in_ok (a := k) (b := 111111) (c := 444444) y.1 y.2 (by decide)
        rw [show s_in (nI k) 111111 444444 = s_in (nI k) (nI 111111) (nI 444444) from rfl, this] at hz
        cases hz
    rw [g1, g2]
    refine s_bool ?_
    simp only [Bool.and_eq_true, decide_eq_true_iff]
    constructor
    · intro z; refine ⟨?_, ?_, ?_, ?_, ?_, ?_, ?_⟩ <;> omega
    · intro z; refine ⟨⟨?_, ?_⟩, ?_, ?_, ?_, ?_, ?_, ?_⟩ <;> omega
