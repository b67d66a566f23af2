/-! Links: what may be asked, on both sides. -/
theorem s_dp_iff {n A q : Nat} {fa : Nat → Nat → Nat} : s_dp n fa A q = true ↔ fa q 0 = 1 ∧ A.testBit q = false ∧ ∃ o, o < n ∧ fa o 0 = 1 ∧ A.testBit o = true ∧ fa o 1 = fa q 1 := by
  unfold s_dp
  rw [Bool.and_eq_true, Bool.and_eq_true, decide_eq_true_iff, Bool.not_eq_true', s_any_iff]
  refine and_congr_right (fun _ => and_congr_right (fun _ => exists_congr (fun o => and_congr_right (fun _ => ?_))))
  unfold s_do
  rw [Bool.and_eq_true, Bool.and_eq_true, decide_eq_true_iff, decide_eq_true_iff]
theorem s_fst_none {p : Nat → Bool} : ∀ {n : Nat}, s_fst n p = none → ∀ i, i < n → p i = false
  | 0, _, i, hi => absurd hi (by omega)
  | n + 1, h, i, hi => by
    rw [s_fst] at h
    cases hz : s_fst n p with
    | some z => rw [hz] at h; cases h
    | none =>
      rw [hz] at h
      by_cases e : i = n
      · subst e
        cases hp : p i with
        | false => rfl
        | true => rw [hp] at h; simp at h
      · exact s_fst_none hz i (by omega)
theorem s_fst_some {p : Nat → Bool} : ∀ {n z : Nat}, s_fst n p = some z → p z = true ∧ z < n ∧ ∀ j, j < z → p j = false
  | 0, z, h => by cases h
  | n + 1, z, h => by
    rw [s_fst] at h
    cases hz : s_fst n p with
    | some y =>
      rw [hz] at h
      cases h
      have := s_fst_some hz
      exact ⟨this.1, by omega, this.2.2⟩
    | none =>
      rw [hz] at h
      cases hp : p n with
      | false => rw [hp] at h; simp at h
      | true =>
        rw [hp] at h
        simp at h
        subst h
        exact ⟨hp, by omega, s_fst_none hz⟩
/-- one group of texts at most is begun and not ended -/
def s_og (n : Nat) (fa : Nat → Nat → Nat) (A : Nat) : Prop := ∀ x y, x < n → y < n → s_dp n fa A x = true → s_dp n fa A y = true → fa x 1 = fa y 1
theorem s_og_0 (n : Nat) (fa : Nat → Nat → Nat) : s_og n fa 0 := by
  intro x y hx hy h1 h2
  obtain ⟨_, _, o, _, _, h, _⟩ := s_dp_iff.mp h1
  simp at h
theorem s_r1N (T A : Nat) : s_r1 (nI A) (nI T) = nI (T &&& (T ^^^ A)) := by
  unfold s_r1 s_not nI
  refine Int32.toBitVec_inj.mp ?_
  rw [Int32.toBitVec_and, Int32.toBitVec_xor]
  apply BitVec.eq_of_getLsbD_eq
  intro i hi
  have e1 : ∀ k : Nat, (Int32.ofNat k).toBitVec = BitVec.ofNat 32 k := fun k => rfl
  have e2 : (-1 : Int32).toBitVec = BitVec.allOnes 32 := by decide
  rw [e2, BitVec.getLsbD_and, BitVec.getLsbD_xor, e1, e1, e1]
  simp only [BitVec.getLsbD_ofNat, BitVec.getLsbD_allOnes, hi, decide_true, Bool.true_and, Nat.testBit_and, Nat.testBit_xor]
  cases T.testBit i <;> cases A.testBit i <;> rfl
theorem s_notb {A q : Nat} (hA : A < 1024) (hq : q < 10) : decide (s_not (nI A) &&& nI (2 ^ q) = 0) = A.testBit q := by
  have key : ∀ q, q < 10 → ∀ A, A < 1024 → decide (s_not (nI A) &&& nI (2 ^ q) = 0) = A.testBit q := by decide +kernel
  exact key q hq A hA
theorem s_low {R z : Nat} (hR : R < 1024) (hz : z < 10) (h1 : R.testBit z = true) (h2 : ∀ j, j < z → R.testBit j = false) : nI R &&& -(nI R) = nI (2 ^ z) := by
  have key : ∀ z, z < 10 → ∀ R, R < 1024 → R.testBit z = true → (∀ j, j < z → R.testBit j = false) → nI R &&& -(nI R) = nI (2 ^ z) := by decide +kernel
  exact key z hz R hR h1 h2
theorem s_pb {z q : Nat} (hz : z < 10) (hq : q < 10) : decide (nI (2 ^ z) &&& nI (2 ^ q) = 0) = !decide (z = q) := by
  have key : ∀ z, z < 10 → ∀ q, q < 10 → decide (nI (2 ^ z) &&& nI (2 ^ q) = 0) = !decide (z = q) := by decide +kernel
  exact key z hz q hq
def s_txn (n : Nat) (fa : Nat → Nat → Nat) (g : Nat) : Nat := s_mk n (fun q => decide (fa q 0 = 1) && decide (fa q 1 = g))
def s_rst (n : Nat) (fa : Nat → Nat → Nat) (A g : Nat) : Nat := s_txn n fa g &&& (s_txn n fa g ^^^ A)
theorem s_txn_b (n : Nat) (fa : Nat → Nat → Nat) (g i : Nat) : (s_txn n fa g).testBit i = (decide (i < n) && (decide (fa i 0 = 1) && decide (fa i 1 = g))) := s_mk_tb _ _ _
theorem s_rst_b (n : Nat) (fa : Nat → Nat → Nat) (A g i : Nat) : (s_rst n fa A g).testBit i = ((decide (i < n) && (decide (fa i 0 = 1) && decide (fa i 1 = g))) && !A.testBit i) := by
  unfold s_rst
  rw [Nat.testBit_and, Nat.testBit_xor, s_txn_b]
  cases (decide (i < n) && (decide (fa i 0 = 1) && decide (fa i 1 = g))) <;> cases A.testBit i <;> rfl
theorem s_rst_lt {n : Nat} (hn : n ≤ 10) (fa : Nat → Nat → Nat) (A g : Nat) : s_rst n fa A g < 1024 := Nat.lt_of_le_of_lt Nat.and_le_left (Nat.lt_of_lt_of_le (s_mk_lt _ n) (s_pw hn))
theorem s_txn_lt {n : Nat} (hn : n ≤ 10) (fa : Nat → Nat → Nat) (g : Nat) : s_txn n fa g < 1024 := Nat.lt_of_lt_of_le (s_mk_lt _ n) (s_pw hn)
theorem s_bg {n A g : Nat} {fa : Nat → Nat → Nat} (hn : n ≤ 10) : (s_r1 (nI A) (s_tx n fa g) ≠ 0 ∧ s_r1 (nI A) (s_tx n fa g) ≠ s_tx n fa g) ↔ ∃ q, q < n ∧ s_dp n fa A q = true ∧ fa q 1 = g := by
  have h1 : s_r1 (nI A) (s_tx n fa g) = nI (s_rst n fa A g) := s_r1N _ _
  have h2 : s_tx n fa g = nI (s_txn n fa g) := rfl
  have hr := s_rst_lt hn fa A g
  have ht := s_txn_lt hn fa g
  rw [h1, h2]
  constructor
  · rintro ⟨a, b⟩
    have a' : s_rst n fa A g ≠ 0 := fun z => a (by rw [z]; rfl)
    have b' : s_rst n fa A g ≠ s_txn n fa g := fun z => b (by rw [z])
    obtain ⟨q, hq⟩ := Nat.exists_testBit_of_ne_zero a'
    rw [s_rst_b] at hq
    simp only [Bool.and_eq_true, decide_eq_true_iff, Bool.not_eq_true'] at hq
    obtain ⟨⟨q1, q2, q3⟩, q4⟩ := hq
    refine ⟨q, q1, s_dp_iff.mpr ⟨q2, q4, ?_⟩, q3⟩
    refine Classical.byContradiction (fun hx => b' (Nat.eq_of_testBit_eq (fun i => ?_)))
    rw [s_rst_b, s_txn_b]
    cases hc : (decide (i < n) && (decide (fa i 0 = 1) && decide (fa i 1 = g))) with
    | false => rfl
    | true =>
      simp only [Bool.and_eq_true, decide_eq_true_iff] at hc
      cases hA : A.testBit i with
      | false => rfl
      | true => exact absurd ⟨i, hc.1, hc.2.1, hA, hc.2.2.trans q3.symm⟩ hx
  · rintro ⟨q, q1, q2, q3⟩
    obtain ⟨d1, d2, o, d3, d4, d5, d6⟩ := s_dp_iff.mp q2
    have hqb : (s_rst n fa A g).testBit q = true := by rw [s_rst_b, d2]; simp [q1, d1, q3]
    have hob : (s_rst n fa A g).testBit o = false := by rw [s_rst_b, d5]; simp
    have hot : (s_txn n fa g).testBit o = true := by rw [s_txn_b]; simp [d3, d4, d6, q3]
    refine ⟨fun z => ?_, fun z => ?_⟩
    · have z' : s_rst n fa A g = 0 := (nI_eq (a := s_rst n fa A g) (b := 0) (by omega) (by decide)).mp z
      rw [z'] at hqb
      simp at hqb
    · have z' : s_rst n fa A g = s_txn n fa g := (nI_eq (by omega) (by omega)).mp z
      rw [z', hot] at hob
      cases hob
theorem s_dp_g {n A q : Nat} {fa : Nat → Nat → Nat} {sh : Nat → Int32} (hO : ok_bank n fa) (hq : q < n) : fa q 1 = 0 ∨ fa q 1 = 1 ∨ fa q 1 = 2 := by
  have := (hO.2 q hq).2.1
  omega
theorem s_rt_none {n A : Nat} {fa : Nat → Nat → Nat} (hn : n ≤ 10) (h : ∀ q, q < n → s_dp n fa A q = false) : s_rt (nI A) (s_tx n fa) = 0 := by
  have hg : ∀ g, ¬ (s_r1 (nI A) (s_tx n fa g) ≠ 0 ∧ s_r1 (nI A) (s_tx n fa g) ≠ s_tx n fa g) := by
    intro g z
    obtain ⟨q, q1, q2, _⟩ := (s_bg hn).mp z
    rw [h q q1] at q2
    cases q2
  unfold s_rt
  rw [if_neg (hg 0), if_neg (hg 1), if_neg (hg 2)]
theorem s_rt_some {n A z : Nat} {fa : Nat → Nat → Nat} (hO : ok_bank n fa) (hog : s_og n fa A) (hz : z < n) (hd : s_dp n fa A z = true) : s_rt (nI A) (s_tx n fa) = nI (s_rst n fa A (fa z 1)) := by
  have hn := hO.1
  have hg : ∀ g, fa z 1 ≠ g → ¬ (s_r1 (nI A) (s_tx n fa g) ≠ 0 ∧ s_r1 (nI A) (s_tx n fa g) ≠ s_tx n fa g) := by
    intro g hne y
    obtain ⟨q, q1, q2, q3⟩ := (s_bg hn).mp y
    exact hne ((hog z q hz q1 hd q2).trans q3)
  have hy : ∀ g, fa z 1 = g → (s_r1 (nI A) (s_tx n fa g) ≠ 0 ∧ s_r1 (nI A) (s_tx n fa g) ≠ s_tx n fa g) := fun g e => (s_bg hn).mpr ⟨z, hz, hd, e⟩
  have hr : ∀ g, s_r1 (nI A) (s_tx n fa g) = nI (s_rst n fa A g) := fun g => s_r1N _ _
  have h3 := (hO.2 z hz).2.1
  unfold s_rt
  rcases (show fa z 1 = 0 ∨ fa z 1 = 1 ∨ fa z 1 = 2 by omega) with e | e | e
  · rw [if_pos (hy 0 e), hr, e]
  · rw [if_neg (hg 0 (by omega)), if_pos (hy 1 e), hr, e]
  · rw [if_neg (hg 0 (by omega)), if_neg (hg 1 (by omega)), if_pos (hy 2 e), hr, e]
theorem s_ab_may {n A q : Nat} {fa : Nat → Nat → Nat} {cn : Nat → Bool} (hO : ok_bank n fa) (hA : A < 2 ^ n) (hog : s_og n fa A) (hq : q < n) : s_ab cn A (s_th (s_rt (nI A) (s_tx n fa)) (nI A)) q = s_may n fa cn A q := by
  have hn := hO.1
  have hA1 : A < 1024 := Nat.lt_of_lt_of_le hA (s_pw hn)
  unfold s_ab s_may
  cases hf : s_fst n (s_dp n fa A) with
  | none =>
    rw [s_rt_none hn (s_fst_none hf), s_th, if_pos rfl, s_notb hA1 (by omega)]
    simp
  | some z =>
    obtain ⟨z1, z2, z3⟩ := s_fst_some hf
    obtain ⟨d1, d2, o, d3, d4, d5, d6⟩ := s_dp_iff.mp z1
    have hb : (s_rst n fa A (fa z 1)).testBit z = true := by rw [s_rst_b, d2]; simp [z2, d1]
    have hl : ∀ j, j < z → (s_rst n fa A (fa z 1)).testBit j = false := by
      intro j hj
      cases hc : (s_rst n fa A (fa z 1)).testBit j with
      | false => rfl
      | true =>
        rw [s_rst_b] at hc
        simp only [Bool.and_eq_true, decide_eq_true_iff, Bool.not_eq_true'] at hc
        have h5 := z3 j hj
        rw [s_dp_iff.mpr ⟨hc.1.2.1, hc.2, o, d3, d4, d5, d6.trans hc.1.2.2.symm⟩] at h5
        cases h5
    have hR := s_rst_lt hn fa A (fa z 1)
    have hne : ¬ nI (s_rst n fa A (fa z 1)) = 0 := by
      intro y
      have y' : s_rst n fa A (fa z 1) = 0 := (nI_eq (a := s_rst n fa A (fa z 1)) (b := 0) (by omega) (by decide)).mp y
      rw [y'] at hb
      simp at hb
    rw [s_rt_some hO hog z2 z1, s_th, if_neg hne, s_low hR (by omega) hb hl, s_pb (by omega) (by omega)]
    by_cases e : z = q
    · subst e; simp [d2]
    · simp [e]
/-- the class's bits are the model's questions -/
theorem s_xm_may {n A : Nat} {fa : Nat → Nat → Nat} {ft : Nat → Bool} (hO : ok_bank n fa) (hA : A < 2 ^ n) (hog : s_og n fa A) : s_xm n fa ft A = s_mk n (s_may n fa (s_can ft n) A) := s_mk_c (fun _ hq => s_ab_may hO hA hog hq)
theorem s_xm_b {n A q : Nat} {fa : Nat → Nat → Nat} {ft : Nat → Bool} (hO : ok_bank n fa) (hA : A < 2 ^ n) (hog : s_og n fa A) (hq : q < n) : (s_xm n fa ft A).testBit q = s_may n fa (s_can ft n) A q := by
  rw [s_xm_may hO hA hog, s_mk_tb, decide_eq_true hq, Bool.true_and]
theorem s_may_1 {n A q : Nat} {fa : Nat → Nat → Nat} {cn : Nat → Bool} (h : s_may n fa cn A q = true) : A.testBit q = false ∧ cn (A ||| 2 ^ q) = true ∧ ∀ z, s_fst n (s_dp n fa A) = some z → z = q := by
  unfold s_may at h
  rw [Bool.and_eq_true, Bool.and_eq_true, Bool.not_eq_true'] at h
  refine ⟨h.1, h.2.1, fun z hz => ?_⟩
  have := h.2.2
  rw [hz] at this
  simpa using this
theorem s_or_b (A q i : Nat) : (A ||| 2 ^ q).testBit i = (A.testBit i || decide (q = i)) := by
  rw [Nat.testBit_or, Nat.testBit_two_pow]
theorem s_og_s {n A q : Nat} {fa : Nat → Nat → Nat} {cn : Nat → Bool} (hog : s_og n fa A) (hq : q < n) (h : s_may n fa cn A q = true) : s_og n fa (A ||| 2 ^ q) := by
  obtain ⟨m1, m2, m3⟩ := s_may_1 h
  have key : ∀ x, x < n → s_dp n fa (A ||| 2 ^ q) x = true → fa x 1 = fa q 1 := by
    intro x hx hd
    obtain ⟨d1, d2, o, d3, d4, d5, d6⟩ := s_dp_iff.mp hd
    rw [s_or_b] at d2 d5
    simp only [Bool.or_eq_false_iff, decide_eq_false_iff_not, Bool.or_eq_true, decide_eq_true_iff] at d2 d5
    rcases d5 with d5 | d5
    · have hx0 : s_dp n fa A x = true := s_dp_iff.mpr ⟨d1, d2.1, o, d3, d4, d5, d6⟩
      cases hf : s_fst n (s_dp n fa A) with
      | none => rw [s_fst_none hf x hx] at hx0; cases hx0
      | some z =>
        have e := m3 z hf
        subst e
        obtain ⟨z1, z2, _⟩ := s_fst_some hf
        exact hog x z hx z2 hx0 z1
    · subst d5; exact d6.symm
  exact fun x y hx hy h1 h2 => (key x hx h1).trans (key y hy h2).symm
theorem s_pc_or {n A q : Nat} (h : A.testBit q = false) : ∀ {m : Nat}, s_ct m (fun i => (A ||| 2 ^ q).testBit i) = s_ct m (fun i => A.testBit i) + (if q < m then 1 else 0)
  | 0 => rfl
  | m + 1 => by
    rw [s_ct, s_ct, s_pc_or (n := n) h (m := m)]
    by_cases e : q = m
    · subst e
      simp [s_or_b, h]
    · have e2 : (A ||| 2 ^ q).testBit m = A.testBit m := by rw [s_or_b]; simp [e]
      simp only [e2]
      repeat' split
      all_goals omega
theorem s_pc_s {n A q : Nat} (hq : q < n) (h : A.testBit q = false) : s_pc n (A ||| 2 ^ q) = s_pc n A + 1 := by
  have := s_pc_or (n := n) h (m := n)
  rw [if_pos hq] at this
  exact this
theorem s_tb_st (ft : Nat → Bool) {n U : Nat} (hU : U < 2 ^ n) : ∀ (m : Nat), 2 ^ n - U + m ≤ 2 ^ n → s_tb ft n (2 ^ n - U + m) U = s_tb ft n (2 ^ n - U) U
  | 0, _ => rfl
  | m + 1, h => by
    rw [show 2 ^ n - U + (m + 1) = (2 ^ n - U + m) + 1 by omega, s_tb, if_neg (by omega)]
    exact s_tb_st ft hU m (by omega)
theorem s_tb_can (ft : Nat → Bool) {n U j : Nat} (hU : U < 2 ^ n) (h1 : 2 ^ n - U ≤ j) (h2 : j ≤ 2 ^ n) : s_tb ft n j U = s_can ft n U := by
  have a := s_tb_st ft hU (j - (2 ^ n - U)) (by omega)
  have b := s_tb_st ft hU (2 ^ n - (2 ^ n - U)) (by omega)
  rw [show 2 ^ n - U + (j - (2 ^ n - U)) = j by omega] at a
  rw [show 2 ^ n - U + (2 ^ n - (2 ^ n - U)) = 2 ^ n by omega] at b
  exact a.trans b.symm
theorem s_can_eq (ft : Nat → Bool) {n U : Nat} (hU : U < 2 ^ n) : s_can ft n U = (ft U || s_any n (s_nb (s_can ft n) U)) := by
  rw [← s_tb_can ft hU (Nat.le_refl _) (by omega)]
  obtain ⟨j, hj⟩ : ∃ j, 2 ^ n - U = j + 1 := ⟨2 ^ n - U - 1, by omega⟩
  rw [hj, s_tb, if_pos (by omega)]
  congr 1
  refine s_any_c (fun i hi => ?_)
  unfold s_nb
  cases hb : U.testBit i with
  | true => rfl
  | false =>
    have h1 := s_orgt hb
    have h2 := s_orlt hU hi
    rw [s_tb_can ft h2 (by omega) (by omega)]
theorem s_can_pc {ft : Nat → Bool} {n : Nat} (hF : ∀ U, U < 2 ^ n → ft U = true → s_pc n U ≤ 6) : ∀ (m U : Nat), 2 ^ n - U ≤ m → U < 2 ^ n → s_can ft n U = true → s_pc n U ≤ 6
  | 0, U, h, hU, _ => absurd hU (by omega)
  | m + 1, U, h, hU, hc => by
    rw [s_can_eq ft hU, Bool.or_eq_true] at hc
    rcases hc with hc | hc
    · exact hF U hU hc
    · obtain ⟨i, hi, hn⟩ := s_any_iff.mp hc
      unfold s_nb at hn
      rw [Bool.and_eq_true, Bool.not_eq_true'] at hn
      have h1 := s_orgt hn.1
      have h2 := s_orlt hU hi
      have h3 := s_can_pc hF m (U ||| 2 ^ i) (by omega) h2 hn.2
      rw [s_pc_s hi hn.1] at h3
      omega
theorem s_can_ft {ft : Nat → Bool} {n U : Nat} (hU : U < 2 ^ n) (h : ft U = true) : s_can ft n U = true := by
  rw [s_can_eq ft hU, h, Bool.true_or]
/-- from any fit set the empty one is a part -/
theorem s_can_dn {ft : Nat → Bool} {n U i : Nat} (hU : U < 2 ^ n) (hi : i < n) (hb : U.testBit i = false) (h : s_can ft n (U ||| 2 ^ i) = true) : s_can ft n U = true := by
  rw [s_can_eq ft hU, Bool.or_eq_true]
  exact Or.inr (s_any_iff.mpr ⟨i, hi, by unfold s_nb; rw [hb, h]; rfl⟩)
theorem s_xm_ct {n A : Nat} {fa : Nat → Nat → Nat} {ft : Nat → Bool} (hO : ok_bank n fa) (hA : A < 2 ^ n) (hog : s_og n fa A) : s_pc n (s_xm n fa ft A) = s_ct n (s_may n fa (s_can ft n) A) := s_ct_c (fun _ hq => s_xm_b hO hA hog hq)
theorem s_xm_0 {n A : Nat} {fa : Nat → Nat → Nat} {ft : Nat → Bool} (hO : ok_bank n fa) (hA : A < 2 ^ n) (hog : s_og n fa A) : s_xm n fa ft A = 0 ↔ s_ct n (s_may n fa (s_can ft n) A) = 0 := by
  rw [s_ct_0]
  constructor
  · intro h i hi
    rw [← s_xm_b (ft := ft) hO hA hog hi, h]
    simp
  · intro h
    rw [s_xm_may hO hA hog]
    apply Nat.eq_of_testBit_eq
    intro i
    rw [s_mk_tb, Nat.zero_testBit]
    by_cases hi : i < n
    · rw [h i hi, Bool.and_false]
    · simp [hi]
