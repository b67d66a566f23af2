/-! Links: masks and counts, what both sides mean by fit and by askable. -/
theorem s_mk_tb (p : Nat → Bool) : ∀ (n i : Nat), (s_mk n p).testBit i = (decide (i < n) && p i)
  | 0, i => by simp [s_mk]
  | n + 1, i => by
    have h := s_mk_lt p n
    have ih := s_mk_tb p n
    have e : s_mk (n + 1) p = if p n = true then s_mk n p ||| 2 ^ n else s_mk n p := by
      rw [s_mk]
      by_cases hp : p n = true
      · rw [if_pos hp, if_pos hp, s_orp h]
      · rw [if_neg hp, if_neg hp, Nat.add_zero]
    rw [e]
    by_cases hi : i = n
    · subst hi
      have h1 : (s_mk i p).testBit i = false := Nat.testBit_lt_two_pow h
      by_cases hp : p i = true
      · rw [if_pos hp, Nat.testBit_or, h1, Nat.testBit_two_pow_self, hp]; simp
      · rw [if_neg hp, h1]; simp [hp]
    · have h2 : (if p n = true then s_mk n p ||| 2 ^ n else s_mk n p).testBit i = (s_mk n p).testBit i := by
        by_cases hp : p n = true
        · rw [if_pos hp, Nat.testBit_or, Nat.testBit_two_pow, decide_eq_false (fun z => hi z.symm), Bool.or_false]
        · rw [if_neg hp]
      rw [h2, ih]
      by_cases h3 : i < n
      · rw [decide_eq_true h3, decide_eq_true (show i < n + 1 by omega)]
      · rw [decide_eq_false h3, decide_eq_false (show ¬ i < n + 1 by omega)]
theorem s_mk_c {p q : Nat → Bool} : ∀ {n : Nat}, (∀ i, i < n → p i = q i) → s_mk n p = s_mk n q
  | 0, _ => rfl
  | n + 1, h => by rw [s_mk, s_mk, s_mk_c (fun i hi => h i (by omega)), h n (by omega)]
theorem s_ct_c {p q : Nat → Bool} : ∀ {n : Nat}, (∀ i, i < n → p i = q i) → s_ct n p = s_ct n q
  | 0, _ => rfl
  | n + 1, h => by rw [s_ct, s_ct, s_ct_c (fun i hi => h i (by omega)), h n (by omega)]
theorem s_any_c {p q : Nat → Bool} : ∀ {n : Nat}, (∀ i, i < n → p i = q i) → s_any n p = s_any n q
  | 0, _ => rfl
  | n + 1, h => by rw [s_any, s_any, s_any_c (fun i hi => h i (by omega)), h n (by omega)]
theorem s_all_iff {p : Nat → Bool} : ∀ {n : Nat}, s_all n p = true ↔ ∀ i, i < n → p i = true
  | 0 => ⟨fun _ i hi => absurd hi (by omega), fun _ => rfl⟩
  | n + 1 => by
    rw [s_all, Bool.and_eq_true, s_all_iff]
    constructor
    · intro h i hi
      by_cases e : i = n
      · subst e; exact h.2
      · exact h.1 i (by omega)
    · exact fun h => ⟨fun i hi => h i (by omega), h n (by omega)⟩
theorem s_any_iff {p : Nat → Bool} : ∀ {n : Nat}, s_any n p = true ↔ ∃ i, i < n ∧ p i = true
  | 0 => ⟨fun h => (by cases h), fun ⟨i, hi, _⟩ => absurd hi (by omega)⟩
  | n + 1 => by
    rw [s_any, Bool.or_eq_true, s_any_iff]
    constructor
    · rintro (⟨i, hi, h⟩ | h)
      · exact ⟨i, by omega, h⟩
      · exact ⟨n, by omega, h⟩
    · rintro ⟨i, hi, h⟩
      by_cases e : i = n
      · subst e; exact Or.inr h
      · exact Or.inl ⟨i, by omega, h⟩
theorem s_ct_0 {p : Nat → Bool} : ∀ {n : Nat}, s_ct n p = 0 ↔ ∀ i, i < n → p i = false
  | 0 => ⟨fun _ i hi => absurd hi (by omega), fun _ => rfl⟩
  | n + 1 => by
    rw [s_ct, Nat.add_eq_zero_iff, s_ct_0]
    constructor
    · intro h i hi
      by_cases e : i = n
      · subst e
        cases hp : p i with
        | false => rfl
        | true => rw [hp] at h; exact absurd h.2 (by decide)
      · exact h.1 i (by omega)
    · exact fun h => ⟨fun i hi => h i (by omega), by rw [h n (by omega)]; rfl⟩
theorem s_ct_le_ct {p q : Nat → Bool} : ∀ {n : Nat}, (∀ i, i < n → p i = true → q i = true) → s_ct n p ≤ s_ct n q
  | 0, _ => Nat.le_refl _
  | n + 1, h => by
    have h1 := s_ct_le_ct (n := n) (fun i hi => h i (by omega))
    have h2 := h n (by omega)
    rw [s_ct, s_ct]
    cases hp : p n with
    | false => simp; omega
    | true => rw [h2 hp]; omega
theorem s_ct_eq {p q : Nat → Bool} : ∀ {n : Nat}, (∀ i, i < n → p i = true → q i = true) → (s_ct n p = s_ct n q ↔ ∀ i, i < n → p i = q i)
  | 0, _ => ⟨fun _ i hi => absurd hi (by omega), fun _ => rfl⟩
  | n + 1, h => by
    have h1 := s_ct_le_ct (n := n) (p := p) (q := q) (fun i hi => h i (by omega))
    have ih := s_ct_eq (n := n) (p := p) (q := q) (fun i hi => h i (by omega))
    have h2 := h n (by omega)
    constructor
    · intro e
      rw [s_ct, s_ct] at e
      have e1 : p n = q n := by
        cases hp : p n with
        | true => exact (h2 hp).symm
        | false =>
          cases hq : q n with
          | false => rfl
          | true => rw [hp, hq] at e; simp at e; omega
      rw [e1] at e
      have e2 := ih.mp (by omega)
      intro i hi
      by_cases e3 : i = n
      · subst e3; exact e1
      · exact e2 i (by omega)
    · intro e
      exact s_ct_c e
/-- how many, of a set -/
def s_pc (n U : Nat) : Nat := s_ct n (fun q => U.testBit q)
theorem s_ct_up {p : Nat → Bool} {n : Nat} : ∀ (m : Nat), (∀ i, n ≤ i → p i = false) → s_ct (n + m) p = s_ct n p
  | 0, _ => rfl
  | m + 1, h => by rw [show n + (m + 1) = (n + m) + 1 by omega, s_ct, h (n + m) (by omega), s_ct_up m h]; rfl
theorem s_bc_10 {U : Nat} (h : U < 1024) : s_bc (nI U) = nI (s_pc 10 U) := by
  have key : ∀ U, U < 1024 → s_bc (nI U) = nI (s_pc 10 U) := by decide +kernel
  exact key U h
theorem s_pc_n {n U : Nat} (hn : n ≤ 10) (h : U < 2 ^ n) : s_pc 10 U = s_pc n U := by
  have h1 := s_ct_up (p := fun q => U.testBit q) (n := n) (10 - n) (fun i hi => Nat.testBit_lt_two_pow (Nat.lt_of_lt_of_le h (Nat.pow_le_pow_right (by decide) hi)))
  rw [show n + (10 - n) = 10 by omega] at h1
  exact h1
theorem s_bcN {n U : Nat} (hn : n ≤ 10) (h : U < 2 ^ n) : s_bc (nI U) = nI (s_pc n U) := by
  rw [s_bc_10 (Nat.lt_of_lt_of_le h (s_pw hn)), s_pc_n hn h]
theorem s_pc_and {n U : Nat} (p : Nat → Bool) : s_pc n (U &&& s_mk n p) = s_ct n (fun q => U.testBit q && p q) := by
  refine s_ct_c (fun i hi => ?_)
  rw [Nat.testBit_and, s_mk_tb, decide_eq_true hi, Bool.true_and]
theorem s_bc_and {n U : Nat} (hn : n ≤ 10) (h : U < 2 ^ n) (p : Nat → Bool) : s_bc (nI U &&& nI (s_mk n p)) = nI (s_ct n (fun q => U.testBit q && p q)) := by
  rw [s_and, s_bcN hn (Nat.lt_of_le_of_lt Nat.and_le_left h), s_pc_and]
theorem s_and_0 {n U : Nat} (p : Nat → Bool) (h : U < 2 ^ n) : U &&& s_mk n p = 0 ↔ ∀ i, i < n → U.testBit i = true → p i = false := by
  constructor
  · intro e i hi hu
    have h1 : (U &&& s_mk n p).testBit i = false := by rw [e]; simp
    rw [Nat.testBit_and, s_mk_tb, hu, decide_eq_true hi] at h1
    simpa using h1
  · intro e
    apply Nat.eq_of_testBit_eq
    intro i
    rw [Nat.testBit_and, s_mk_tb, Nat.zero_testBit]
    by_cases hi : i < n
    · cases hu : U.testBit i with
      | false => rfl
      | true => rw [e i hi hu]; simp
    · simp [hi]
theorem s_and_all {n U : Nat} (p : Nat → Bool) : U &&& s_mk n p = s_mk n p ↔ ∀ i, i < n → p i = true → U.testBit i = true := by
  constructor
  · intro e i hi hp
    have h1 : (U &&& s_mk n p).testBit i = (s_mk n p).testBit i := by rw [e]
    rw [Nat.testBit_and, s_mk_tb, hp, decide_eq_true hi] at h1
    simpa using h1
  · intro e
    apply Nat.eq_of_testBit_eq
    intro i
    rw [Nat.testBit_and, s_mk_tb]
    by_cases hi : i < n
    · cases hp : p i with
      | false => simp
      | true => rw [e i hi hp]; simp
    · simp [hi]
theorem s_nIe {a b : Nat} (ha : a < 1024) (hb : b < 1024) : decide (nI a = nI b) = decide (a = b) := by
  by_cases h : a = b
  · subst h; simp
  · rw [decide_eq_false h, decide_eq_false (fun z => h ((nI_eq (by omega) (by omega)).mp z))]
theorem s_nI0 {a : Nat} (ha : a < 1024) : decide (nI a = 0) = decide (a = 0) := s_nIe (b := 0) ha (by decide)
theorem s_dec_c {P Q : Prop} [Decidable P] [Decidable Q] (h : P ↔ Q) : decide P = decide Q := by
  by_cases hp : P
  · rw [decide_eq_true hp, decide_eq_true (h.mp hp)]
  · rw [decide_eq_false hp, decide_eq_false (fun z => hp (h.mpr z))]
theorem s_bool {a b : Bool} (h : a = true ↔ b = true) : a = b := by
  cases a <;> cases b <;> simp_all
/-- fit means the same on both sides -/
theorem s_fx_mf {n : Nat} {fa : Nat → Nat → Nat} {sh : Nat → Int32} {mo : Int32} {lo hi lo' hi' : Nat → Int32} (hO : ok_bank n fa) (hl : ∀ c, c < 3 → lo c = lo' c) (hh : ∀ c, c < 3 → hi c = hi' c) {U : Nat} (hU : U < 2 ^ n) : s_fx n fa (s_wn fa sh) mo lo hi U = s_mf n fa sh lo' hi' mo U := by
  have hn := hO.1
  have hp := s_pw hn
  have hU1 : U < 1024 := by omega
  have hM : ∀ p : Nat → Bool, s_mk n p < 1024 := fun p => Nat.lt_of_lt_of_le (s_mk_lt p n) hp
  have hA : ∀ p : Nat → Bool, U &&& s_mk n p < 1024 := fun p => Nat.lt_of_le_of_lt Nat.and_le_left hU1
  have hg : ∀ g, s_kg (nI U) (nI (s_mk n (fun q => decide (fa q 0 = 1) && decide (fa q 1 = g)))) (nI (s_mk n (fun q => decide (fa q 0 = 2) && decide (fa q 1 = g)))) = s_gw n fa U g := by
    intro g
    unfold s_kg s_gw
    rw [s_bc_and hn hU, s_and, s_nI0 (hA _), s_nIe (hA _) (hM _)]
    have e1 : s_ct n (fun q => U.testBit q && (decide (fa q 0 = 2) && decide (fa q 1 = g))) = s_ct n (p_f fa U g) := by
      refine s_ct_c (fun i _ => ?_)
      unfold p_f
      cases U.testBit i <;> simp [Bool.and_comm]
    have e2 : decide (nI (s_ct n (p_f fa U g)) ≤ (1 : Int32)) = decide (s_ct n (p_f fa U g) < 2) := by
      have h1 := s_ct_le (p_f fa U g) n
      refine s_dec_c ((nI_leI (a := s_ct n (p_f fa U g)) (b := 1) (by omega) (by decide)).trans ⟨fun z => by omega, fun z => by omega⟩)
    have e3 : decide (U &&& s_mk n (fun q => decide (fa q 0 = 1) && decide (fa q 1 = g)) = 0) = decide (s_ct n (p_t fa U g) = 0) := by
      refine s_dec_c ((s_and_0 _ hU).trans (Iff.trans ?_ s_ct_0.symm))
      refine forall_congr' (fun i => forall_congr' (fun hi => ?_))
      unfold p_t
      cases U.testBit i <;> simp [Bool.and_comm]
    have e4 : decide (U &&& s_mk n (fun q => decide (fa q 0 = 1) && decide (fa q 1 = g)) = s_mk n (fun q => decide (fa q 0 = 1) && decide (fa q 1 = g))) = decide (s_ct n (p_t fa U g) = s_ct n (p_a fa g)) := by
      refine s_dec_c ((s_and_all _).trans (Iff.trans ?_ (s_ct_eq ?_).symm))
      · refine forall_congr' (fun i => forall_congr' (fun hi => ?_))
        unfold p_t p_a
        cases U.testBit i <;> simp
        · exact ⟨fun z a b => z b a, fun z a b => z b a⟩
      · intro i _
        unfold p_t p_a
        simp
        exact fun a b _ => ⟨a, b⟩
    rw [e1, e2, e3, e4, Bool.and_comm]
  have hc : ∀ c, s_bc (nI U &&& nI (s_mk n (fun q => decide (fa q 2 = c)))) = nI (s_ct n (p_c fa U c)) := fun c => s_bc_and hn hU _
  unfold s_fx s_mf
  have h3 : s_all 3 (p_2 n fa lo' hi' U) = ((true && p_2 n fa lo' hi' U 0) && p_2 n fa lo' hi' U 1 && p_2 n fa lo' hi' U 2) := rfl
  rw [h3]
  unfold s_kr s_kc p_2
  rw [hc 0, hc 1, hc 2, hg 0, hg 1, hg 2, s_bcN hn hU, hl 0 (by decide), hl 1 (by decide), hl 2 (by decide), hh 0 (by decide), hh 1 (by decide), hh 2 (by decide)]
  have h4 : s_all n (p_1 fa sh U) = (decide (nI U &&& nI (s_mk n (fun q => decide (fa q 0 = 3))) = nI (s_mk n (fun q => decide (fa q 0 = 3)))) && decide (nI U &&& nI (s_mk n (s_wn fa sh)) = 0)) := by
    rw [s_and, s_and, s_nI0 (hA _), s_nIe (hA _) (hM _)]
    refine s_bool ?_
    rw [s_all_iff, Bool.and_eq_true, decide_eq_true_iff, decide_eq_true_iff, s_and_all, s_and_0 _ hU]
    constructor
    · intro h
      refine ⟨fun i hi hp => ?_, fun i hi hu => ?_⟩
      · have := h i hi
        unfold p_1 at this
        cases hu : U.testBit i with
        | true => rfl
        | false => rw [hu] at this; simp at this; simp at hp; exact absurd hp this
      · have := h i hi
        unfold p_1 at this
        rw [hu] at this
        simpa using this
    · intro h i hi
      unfold p_1
      cases hu : U.testBit i with
      | true => rw [if_pos rfl, h.2 i hi hu]; rfl
      | false =>
        rw [if_neg (by decide)]
        by_cases e : fa i 0 = 3
        · have := h.1 i hi (by simp [e]); rw [hu] at this; cases this
        · simp [e]
  rw [h4]
  have h5 : s_ct n (fun q => U.testBit q) = s_pc n U := rfl
  rw [h5]
  generalize decide (nI (s_pc n U) ≤ mo) = b1
  generalize decide (nI U &&& nI (s_mk n (fun q => decide (fa q 0 = 3))) = nI (s_mk n (fun q => decide (fa q 0 = 3)))) = b2
  generalize decide (nI U &&& nI (s_mk n (s_wn fa sh)) = 0) = b3
  generalize s_in (nI (s_ct n (p_c fa U 0))) (lo' 0) (hi' 0) = b4
  generalize s_in (nI (s_ct n (p_c fa U 1))) (lo' 1) (hi' 1) = b5
  generalize s_in (nI (s_ct n (p_c fa U 2))) (lo' 2) (hi' 2) = b6
  generalize s_gw n fa U 0 = b7
  generalize s_gw n fa U 1 = b8
  generalize s_gw n fa U 2 = b9
  cases b1 <;> cases b2 <;> cases b3 <;> cases b4 <;> cases b5 <;> cases b6 <;> cases b7 <;> cases b8 <;> cases b9 <;> rfl
