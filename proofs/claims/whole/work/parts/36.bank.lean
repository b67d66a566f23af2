/-! Pairs: question, set, about. -/
def s_qrow (kd g c lm ch : Int32) : Nat → Int32 := fun v => if v = 0 then kd else if v = 1 then g else if v = 2 then c else if v = 3 then lm else if v = 5 then ch / 10 / 10 / 10 / 10 / 10 - ch / 10 / 10 / 10 / 10 / 10 / 10 * 10 else if v = 6 then ch / 10 / 10 / 10 / 10 - ch / 10 / 10 / 10 / 10 / 10 * 10 else if v = 7 then ch / 10 / 10 / 10 - ch / 10 / 10 / 10 / 10 * 10 else if v = 8 then ch / 10 / 10 - ch / 10 / 10 / 10 * 10 else if v = 9 then ch / 10 - ch / 10 / 10 * 10 else if v = 10 then ch - ch / 10 * 10 else 0
theorem s_canBe0 (x : Int32) : s_canBe 0 x = s_in x 0 4 := by unfold s_canBe; rw [if_pos rfl]
theorem s_canBe1 (x : Int32) : s_canBe 1 x = s_in x 0 2 := by unfold s_canBe; rw [if_neg (by decide), if_pos rfl]
theorem s_canBe2 (x : Int32) : s_canBe 2 x = s_in x 0 2 := by unfold s_canBe; rw [if_neg (by decide), if_neg (by decide), if_pos rfl]
theorem s_canBe3 (x : Int32) : s_canBe 3 x = s_in x 1 99 := by unfold s_canBe; rw [if_neg (by decide), if_neg (by decide), if_neg (by decide), if_pos rfl]
theorem s_v11 {v : Nat} (h : v < 11) : v = 0 ∨ v = 1 ∨ v = 2 ∨ v = 3 ∨ v = 4 ∨ v = 5 ∨ v = 6 ∨ v = 7 ∨ v = 8 ∨ v = 9 ∨ v = 10 := by omega
theorem s_v6 {v : Nat} (h : v < 6) : v = 0 ∨ v = 1 ∨ v = 2 ∨ v = 3 ∨ v = 4 ∨ v = 5 := by omega
theorem s_ch_d {ch : Int32} (h : s_ch ch = true) : ∀ v, 5 ≤ v → v < 11 → ∀ kd g c lm : Int32, s_in (s_qrow kd g c lm ch v) 1 4 = true := by
  unfold s_ch s_dg at h
  simp only [Bool.and_eq_true] at h
  obtain ⟨h0, h1, h2, h3, h4, h5, _⟩ := h
  intro v hv hv2 kd g c lm
  rcases s_v11 hv2 with e | e | e | e | e | e | e | e | e | e | e <;> subst e
  · omega
  · omega
  · omega
  · omega
  · omega
  · exact h5
  · exact h4
  · exact h3
  · exact h2
  · exact h1
  · exact h0
theorem s_qrow_b {kd g c lm ch : Int32} (k0 : s_canBe 0 kd = true) (k1 : s_canBe 1 g = true) (k2 : s_canBe 2 c = true) (k3 : s_canBe 3 lm = true) (k4 : s_ch ch = true) : (∀ v, v < 11 → v ≠ 4 → nI (s_qrow kd g c lm ch v).toNatClampNeg = s_qrow kd g c lm ch v) ∧ (s_qrow kd g c lm ch 0).toNatClampNeg < 5 ∧ (s_qrow kd g c lm ch 1).toNatClampNeg < 3 ∧ (s_qrow kd g c lm ch 2).toNatClampNeg < 3 ∧ 1 ≤ (s_qrow kd g c lm ch 3).toNatClampNeg ∧ (s_qrow kd g c lm ch 3).toNatClampNeg < 100 ∧ ∀ s, s < 6 → 1 ≤ (s_qrow kd g c lm ch (5 + s)).toNatClampNeg ∧ (s_qrow kd g c lm ch (5 + s)).toNatClampNeg ≤ 4 := by
  rw [s_canBe0] at k0
  rw [s_canBe1] at k1
  rw [s_canBe2] at k2
  rw [s_canBe3] at k3
  obtain ⟨a0, a1, a2⟩ := s_cl (a := 0) (b := 4) (by decide) (by decide) k0
  obtain ⟨b0, b1, b2⟩ := s_cl (a := 0) (b := 2) (by decide) (by decide) k1
  obtain ⟨c0, c1, c2⟩ := s_cl (a := 0) (b := 2) (by decide) (by decide) k2
  obtain ⟨d0, d1, d2⟩ := s_cl (a := 1) (b := 99) (by decide) (by decide) k3
  have hd := s_ch_d k4
  refine ⟨fun v hv hv4 => ?_, ?_, ?_, ?_, d1, ?_, fun s hs => ?_⟩
  · by_cases h5 : 5 ≤ v
    · exact (s_cl (a := 1) (b := 4) (by decide) (by decide) (hd v h5 hv kd g c lm)).1
    · rcases (show v = 0 ∨ v = 1 ∨ v = 2 ∨ v = 3 by omega) with e | e | e | e <;> subst e
      · exact a0
      · exact b0
      · exact c0
      · exact d0
  · exact Nat.lt_of_le_of_lt a2 (by decide)
  · exact Nat.lt_of_le_of_lt b2 (by decide)
  · exact Nat.lt_of_le_of_lt c2 (by decide)
  · exact Nat.lt_of_le_of_lt d2 (by decide)
  · exact (s_cl (a := 1) (b := 4) (by decide) (by decide) (hd (5 + s) (by omega) (by omega) kd g c lm)).2
theorem s_qst_o (M : q_M) (n : Nat) (kd g c lm ch : Int32) {r : Nat} (h1 : r ≠ 1) (h2 : r ≠ 3 + n) : (s_qst M n kd g c lm ch).1 r = M.1 r := by
  unfold s_qst s_add
  rw [q_up_ne _ _ _ h2, q_up_ne _ _ _ h2, q_up_ne _ _ _ h2, q_up_ne _ _ _ h2, q_up_ne _ _ _ h2, q_up_ne _ _ _ h2, q_up_ne _ _ _ h2, q_up_ne _ _ _ h2, q_up_ne _ _ _ h2, q_up_ne _ _ _ h2, q_up_ne _ _ _ h1]
theorem s_qst_1 (M : q_M) (n : Nat) (kd g c lm ch : Int32) : (s_qst M n kd g c lm ch).1 1 0 = nI (n + 1) := by
  unfold s_qst
  have h : (1 : Nat) ≠ 3 + n := by omega
  rw [q_up_ne _ _ _ h, q_up_ne _ _ _ h, q_up_ne _ _ _ h, q_up_ne _ _ _ h]
  exact s_add_sz _ _ _
theorem s_qst_r (M : q_M) (n : Nat) (kd g c lm ch : Int32) {v : Nat} (h : v < 11) : (s_qst M n kd g c lm ch).1 (3 + n) v = if v = 4 then M.1 (3 + n) 4 else s_qrow kd g c lm ch v := by
  have h2 : 3 + n ≠ 1 := by omega
  unfold s_qst s_add
  rw [s_up_if, s_up_if, s_up_if, s_up_if, s_up_if, s_up_if, s_up_if, s_up_if, s_up_if, s_up_if, q_up_ne _ _ _ h2]
  rcases s_v11 h with e | e | e | e | e | e | e | e | e | e | e <;> subst e <;> simp [s_qrow]
theorem s_qsm_o (M : q_M) (n : Nat) (kd g c lm ch : Int32) {r : Nat} (h : r < 34 ∨ 40 < r) : (s_qsm M n kd g c lm ch).1 r = M.1 r := by
  unfold s_qsm
  rw [q_up_ne _ _ _ (by omega), q_up_ne _ _ _ (by omega), q_up_ne _ _ _ (by omega), q_up_ne _ _ _ (by omega), q_up_ne _ _ _ (by omega), q_up_ne _ _ _ (by omega), q_up_ne _ _ _ (by omega), q_up_ne _ _ _ (by omega), q_up_ne _ _ _ (by omega), q_up_ne _ _ _ (by omega), q_up_ne _ _ _ (by omega), q_up_ne _ _ _ (by omega)]
theorem s_qsm_34 (M : q_M) (n : Nat) (kd g c lm ch : Int32) (j : Nat) : (s_qsm M n kd g c lm ch).1 34 j = if j = 0 then nI (n + 1) else M.1 34 j := by
  unfold s_qsm
  rw [s_up_if, q_up_ne _ _ _ (by decide), q_up_ne _ _ _ (by decide), q_up_ne _ _ _ (by decide), q_up_ne _ _ _ (by decide), q_up_ne _ _ _ (by decide), q_up_ne _ _ _ (by decide), q_up_ne _ _ _ (by decide), q_up_ne _ _ _ (by decide), q_up_ne _ _ _ (by decide), q_up_ne _ _ _ (by decide), q_up_ne _ _ _ (by decide)]
theorem s_qsm_a (M : q_M) (n : Nat) (kd g c lm ch : Int32) (j : Nat) : (s_qsm M n kd g c lm ch).1 35 j = (if j = n then kd else M.1 35 j) ∧ (s_qsm M n kd g c lm ch).1 36 j = (if j = n then g else M.1 36 j) ∧ (s_qsm M n kd g c lm ch).1 37 j = (if j = n then c else M.1 37 j) ∧ (s_qsm M n kd g c lm ch).1 38 j = (if j = n then lm else M.1 38 j) ∧ (s_qsm M n kd g c lm ch).1 39 j = (if j = n then 0 else M.1 39 j) := by
  unfold s_qsm
  refine ⟨?_, ?_, ?_, ?_, ?_⟩ <;> repeat rw [q_up_ne _ _ _ (by decide)]
  all_goals rw [s_up_if]
  all_goals repeat rw [q_up_ne _ _ _ (by decide)]
theorem s_qsm_40 (M : q_M) (n : Nat) (kd g c lm ch : Int32) : (∀ s, s < 6 → (s_qsm M n kd g c lm ch).1 40 (6 * n + s) = s_qrow kd g c lm ch (5 + s)) ∧ ∀ j, j < 6 * n → (s_qsm M n kd g c lm ch).1 40 j = M.1 40 j := by
  unfold s_qsm
  constructor
  · intro s hs
    rw [q_up_ne _ _ _ (by decide), s_up_if, s_up_if, s_up_if, s_up_if, s_up_if, s_up_if]
    rcases s_v6 hs with e | e | e | e | e | e <;> subst e
    · rw [if_pos rfl]; rfl
    · rw [if_neg (by omega), if_pos rfl]; rfl
    · rw [if_neg (by omega), if_neg (by omega), if_pos rfl]; rfl
    · rw [if_neg (by omega), if_neg (by omega), if_neg (by omega), if_pos rfl]; rfl
    · rw [if_neg (by omega), if_neg (by omega), if_neg (by omega), if_neg (by omega), if_pos rfl]; rfl
    · rw [if_neg (by omega), if_neg (by omega), if_neg (by omega), if_neg (by omega), if_neg (by omega), if_pos rfl]; rfl
  · intro j hj
    rw [q_up_ne _ _ _ (by decide), s_up_if, s_up_if, s_up_if, s_up_if, s_up_if, s_up_if, if_neg (by omega), if_neg (by omega), if_neg (by omega), if_neg (by omega), if_neg (by omega), if_neg (by omega)]
    repeat rw [q_up_ne _ _ _ (by decide)]
theorem pr_question {X : q_X} {σ : q_S} (hO : ok_S σ) (kd g c lm ch : Int32) : q_pr X 28 70 [.int kd, .int g, .int c, .int lm, .int ch] σ := by
  have hn := hO.bank.1
  have hk : (s_fld 0 kd && (s_fld 1 g && (s_fld 2 c && (s_fld 3 lm && s_chM ch)))) = (s_canBe 0 kd && (s_canBe 1 g && (s_canBe 2 c && (s_canBe 3 lm && s_ch ch)))) := by simp only [s_fld_canBe, s_ch_M]
  by_cases hc : (s_canBe 0 kd && (s_canBe 1 g && (s_canBe 2 c && (s_canBe 3 lm && s_ch ch)))) = true ∧ σ.on = false ∧ σ.n < 10
  · obtain ⟨h1, ho, hlt⟩ := hc
    have hchM : s_chM ch = true := by
      simp only [Bool.and_eq_true] at h1
      rw [s_ch_M]; exact h1.2.2.2.2
    simp only [Bool.and_eq_true] at h1
    obtain ⟨k0, k1, k2, k3, k4⟩ := h1
    obtain ⟨r1, r2, r3, r4, r5, r6, r7⟩ := s_qrow_b k0 k1 k2 k3 k4
    have hno : ∀ {P : Prop}, σ.on = true → P := fun h => absurd h (by rw [ho]; decide)
    unfold s_chM at hchM
    simp only [Bool.and_eq_true] at hchM
    obtain ⟨g0, g1, g2, g3, g4, g5, g6⟩ := hchM
    refine ⟨nI σ.n, (q_S.mk (σ.n + 1) (fun q v => if q = σ.n then (s_qrow kd g c lm ch v).toNatClampNeg else σ.fa q v) (fun q => if q = σ.n then 0 else σ.sh q) σ.mo σ.a σ.b σ.lo σ.hi σ.fw σ.on σ.ov σ.wn σ.ft σ.t σ.od σ.rg σ.W), ⟨⟨?_, fun q hq => ?_⟩, hO.mo, hO.ab, hO.fw, fun h => hno h⟩, fun d M h => ?_, fun d M h => ?_⟩
    · show σ.n + 1 ≤ 10
      omega
    · show (if q = σ.n then (s_qrow kd g c lm ch 0).toNatClampNeg else σ.fa q 0) < 5 ∧ (if q = σ.n then (s_qrow kd g c lm ch 1).toNatClampNeg else σ.fa q 1) < 3 ∧ (if q = σ.n then (s_qrow kd g c lm ch 2).toNatClampNeg else σ.fa q 2) < 3 ∧ 1 ≤ (if q = σ.n then (s_qrow kd g c lm ch 3).toNatClampNeg else σ.fa q 3) ∧ (if q = σ.n then (s_qrow kd g c lm ch 3).toNatClampNeg else σ.fa q 3) < 100 ∧ ∀ s, s < 6 → 1 ≤ (if q = σ.n then (s_qrow kd g c lm ch (5 + s)).toNatClampNeg else σ.fa q (5 + s)) ∧ (if q = σ.n then (s_qrow kd g c lm ch (5 + s)).toNatClampNeg else σ.fa q (5 + s)) ≤ 4
      by_cases e : q = σ.n
      · simp only [if_pos e]; exact ⟨r2, r3, r4, r5, r6, r7⟩
      · simp only [if_neg e]; exact hO.bank.2 q (by have : q < σ.n + 1 := hq; omega)
    · have hon0 : M.1 23 0 = 0 := by rw [h.on, ho]; rfl
      refine (c_question_ok X (d + 8) hlt kd g c lm ch M hon0 h.bank.1 k0 k1 k2 k3 k4).p ⟨rfl, ⟨⟨s_qst_1 _ _ _ _ _ _ _, fun q hq => ⟨fun v hv hv4 => ?_, ?_⟩⟩, fun q h1 h2 => ?_, ?_⟩, fun r hr => s_qst_o _ _ _ _ _ _ _ (by omega) (by omega)⟩
      · show _ = nI (if q = σ.n then (s_qrow kd g c lm ch v).toNatClampNeg else σ.fa q v)
        by_cases e : q = σ.n
        · rw [if_pos e, e, s_qst_r _ _ _ _ _ _ _ hv, if_neg hv4, r1 v hv hv4]
        · rw [if_neg e, s_qst_o _ _ _ _ _ _ _ (by omega) (by omega)]; exact (h.bank.2 q (by have : q < σ.n + 1 := hq; omega)).1 v hv hv4
      · show _ = if q = σ.n then 0 else σ.sh q
        by_cases e : q = σ.n
        · rw [if_pos e, e, s_qst_r _ _ _ _ _ _ _ (by decide), if_pos rfl]; exact h.new _ (Nat.le_refl _) hlt
        · rw [if_neg e, s_qst_o _ _ _ _ _ _ _ (by omega) (by omega)]; exact (h.bank.2 q (by have : q < σ.n + 1 := hq; omega)).2
      · have h1' : σ.n + 1 ≤ q := h1
        rw [s_qst_o _ _ _ _ _ _ _ (by omega) (by omega)]
        exact h.new q (by omega) h2
      · have h13 : ∀ r, 13 ≤ r → (s_qst M σ.n kd g c lm ch).1 r = M.1 r := fun r hr => s_qst_o _ _ _ _ _ _ _ (by omega) (by omega)
        refine ⟨?_, ?_, ?_, fun c hc => ?_, fun c hc => ?_, fun c hc => ?_, ?_, ?_, fun h => hno h⟩
        · rw [h13 13 (by decide)]; exact h.mo
        · rw [h13 13 (by decide)]; exact h.a
        · rw [h13 13 (by decide)]; exact h.b
        · rw [h13 14 (by decide)]; exact h.lo c hc
        · rw [h13 15 (by decide)]; exact h.hi c hc
        · rw [h13 16 (by decide)]; exact h.fw c hc
        · rw [h13 23 (by decide)]; exact h.on
        · rw [h13 23 (by decide)]; exact h.ov
    · have hon0 : M.1 34 13 = 0 := by rw [h.on, ho]; rfl
      rw [← s_fld_canBe] at k0 k1 k2 k3
      have h34 : ∀ j, j ≠ 0 → (s_qsm M σ.n kd g c lm ch).1 34 j = M.1 34 j := fun j hj => by rw [s_qsm_34, if_neg hj]
      have h41 : ∀ r, 40 < r → (s_qsm M σ.n kd g c lm ch).1 r = M.1 r := fun r hr => s_qsm_o _ _ _ _ _ _ _ (Or.inr hr)
      refine (m_question_ok X (d + 9) hlt kd g c lm ch M hon0 h.bank.1 k0 k1 k2 k3 g0 g1 g2 g3 g4 g5 g6).p ⟨rfl, ⟨⟨(s_qsm_34 _ _ _ _ _ _ _ 0).trans (if_pos rfl), fun q hq => ?_⟩, (h34 7 (by decide)).trans h.mo, (h34 10 (by decide)).trans h.a, (h34 11 (by decide)).trans h.b, fun c hc => ?_, fun c hc => ?_, fun c hc => ?_, (h34 13 (by decide)).trans h.on, (h34 14 (by decide)).trans h.ov, fun h => hno h⟩, fun r hr => s_qsm_o _ _ _ _ _ _ _ (Or.inl hr)⟩
      · obtain ⟨a0, a1, a2, a3, a4⟩ := s_qsm_a M σ.n kd g c lm ch q
        obtain ⟨b0, b1⟩ := s_qsm_40 M σ.n kd g c lm ch
        show _ = nI (if q = σ.n then (s_qrow kd g c lm ch 0).toNatClampNeg else σ.fa q 0) ∧ _ = nI (if q = σ.n then (s_qrow kd g c lm ch 1).toNatClampNeg else σ.fa q 1) ∧ _ = nI (if q = σ.n then (s_qrow kd g c lm ch 2).toNatClampNeg else σ.fa q 2) ∧ _ = nI (if q = σ.n then (s_qrow kd g c lm ch 3).toNatClampNeg else σ.fa q 3) ∧ _ = (if q = σ.n then 0 else σ.sh q) ∧ ∀ s, s < 6 → _ = nI (if q = σ.n then (s_qrow kd g c lm ch (5 + s)).toNatClampNeg else σ.fa q (5 + s))
        by_cases e : q = σ.n
        · simp only [if_pos e] at a0 a1 a2 a3 a4 ⊢
          rw [a0, a1, a2, a3, a4, r1 0 (by decide) (by decide), r1 1 (by decide) (by decide), r1 2 (by decide) (by decide), r1 3 (by decide) (by decide)]
          refine ⟨rfl, rfl, rfl, rfl, rfl, fun s hs => ?_⟩
          rw [e, b0 s hs, r1 (5 + s) (by omega) (by omega)]
        · simp only [if_neg e] at a0 a1 a2 a3 a4 ⊢
          have hq' : q < σ.n := by have : q < σ.n + 1 := hq; omega
          obtain ⟨z0, z1, z2, z3, z4, z5⟩ := h.bank.2 q hq'
          rw [a0, a1, a2, a3, a4]
          exact ⟨z0, z1, z2, z3, z4, fun s hs => by rw [b1 _ (by omega)]; exact z5 s hs⟩
      · rw [h41 41 (by decide)]; exact h.lo c hc
      · rw [h41 42 (by decide)]; exact h.hi c hc
      · rw [h41 43 (by decide)]; exact h.fw c hc
  · have hno : (s_canBe 0 kd && (s_canBe 1 g && (s_canBe 2 c && (s_canBe 3 lm && s_ch ch)))) = true → σ.on = false → σ.n = 10 := by
      intro h1 h2
      have : ¬ σ.n < 10 := fun h3 => hc ⟨h1, h2, h3⟩
      omega
    refine q_pr.same (if (s_canBe 0 kd && (s_canBe 1 g && (s_canBe 2 c && (s_canBe 3 lm && s_ch ch)))) = true then (if σ.on = true then -2 else -3) else -1) hO (fun d M h => c_question_no X (d + 8) hn kd g c lm ch M h.on h.bank.1 hno) (fun d M h => ?_)
    have hz := m_question_no X (d + 9) hn kd g c lm ch M h.on h.bank.1 (by rw [hk]; exact hno)
    rw [hk] at hz
    exact hz
