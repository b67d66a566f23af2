/-! Pairs: set, about, fit. -/
theorem s_up_id (M : q_M) (r k j : Nat) : (q_up M r k (M.1 r k)).1 r j = M.1 r j := by
  rw [s_up_if]
  by_cases e : j = k
  · rw [if_pos e, e]
  · rw [if_neg e]
def s_setf (fa : Nat → Nat → Nat) (k j v : Nat) : Nat → Nat → Nat := fun q w => if q = k ∧ w = j then v else fa q w
theorem s_setf_ok {n k j v : Nat} {fa : Nat → Nat → Nat} {x : Int32} (hO : ok_bank n fa) (hj : j < 4) (h : s_canBe (nI j) x = true) (hv : v = x.toNatClampNeg) : ok_bank n (s_setf fa k j v) ∧ nI v = x := by
  subst hv
  have hr : nI x.toNatClampNeg = x ∧ (j = 0 → x.toNatClampNeg < 5) ∧ (j = 1 → x.toNatClampNeg < 3) ∧ (j = 2 → x.toNatClampNeg < 3) ∧ (j = 3 → 1 ≤ x.toNatClampNeg ∧ x.toNatClampNeg < 100) := by
    rcases (show j = 0 ∨ j = 1 ∨ j = 2 ∨ j = 3 by omega) with e | e | e | e <;> subst e
    · have h' : s_in x 0 4 = true := (s_canBe0 x).symm.trans h
      obtain ⟨a, b, c⟩ := s_cl (a := 0) (b := 4) (by decide) (by decide) h'
      exact ⟨a, fun _ => by omega, fun z => absurd z (by decide), fun z => absurd z (by decide), fun z => absurd z (by decide)⟩
    · have h' : s_in x 0 2 = true := (s_canBe1 x).symm.trans h
      obtain ⟨a, b, c⟩ := s_cl (a := 0) (b := 2) (by decide) (by decide) h'
      exact ⟨a, fun z => absurd z (by decide), fun _ => by omega, fun z => absurd z (by decide), fun z => absurd z (by decide)⟩
    · have h' : s_in x 0 2 = true := (s_canBe2 x).symm.trans h
      obtain ⟨a, b, c⟩ := s_cl (a := 0) (b := 2) (by decide) (by decide) h'
      exact ⟨a, fun z => absurd z (by decide), fun z => absurd z (by decide), fun _ => by omega, fun z => absurd z (by decide)⟩
    · have h' : s_in x 1 99 = true := (s_canBe3 x).symm.trans h
      obtain ⟨a, b, c⟩ := s_cl (a := 1) (b := 99) (by decide) (by decide) h'
      exact ⟨a, fun z => absurd z (by decide), fun z => absurd z (by decide), fun z => absurd z (by decide), fun _ => ⟨b, by omega⟩⟩
  obtain ⟨h0, h1, h2, h3, h4⟩ := hr
  refine ⟨⟨hO.1, fun q hq => ?_⟩, h0⟩
  obtain ⟨a0, a1, a2, a3, a4, a5⟩ := hO.2 q hq
  unfold s_setf
  refine ⟨?_, ?_, ?_, ?_, ?_, fun s hs => ?_⟩
  · split
    · rename_i z; exact h1 z.2.symm
    · exact a0
  · split
    · rename_i z; exact h2 z.2.symm
    · exact a1
  · split
    · rename_i z; exact h3 z.2.symm
    · exact a2
  · split
    · rename_i z; exact (h4 z.2.symm).1
    · exact a3
  · split
    · rename_i z; exact (h4 z.2.symm).2
    · exact a4
  · rw [if_neg (by omega)]; exact a5 s hs
theorem s_setf_x {n k j v : Nat} {fa : Nat → Nat → Nat} {sh : Nat → Int32} {M : q_M} (h : x_bank n fa sh M) (hn : n ≤ 10) (hk : k < n) (hj : j < 4) : x_bank n (s_setf fa k j v) sh (q_up M (3 + k) j (nI v)) := by
  refine ⟨by rw [q_up_ne _ _ _ (show 1 ≠ 3 + k by omega)]; exact h.1, fun q hq => ⟨fun w hw hw4 => ?_, ?_⟩⟩
  · unfold s_setf
    by_cases e : q = k
    · subst e
      rw [s_up_if]
      by_cases e2 : w = j
      · rw [if_pos e2, if_pos ⟨rfl, e2⟩]
      · rw [if_neg e2, if_neg (fun z => e2 z.2)]; exact (h.2 q hq).1 w hw hw4
    · rw [q_up_ne _ _ _ (show 3 + q ≠ 3 + k by omega), if_neg (fun z => e z.1)]; exact (h.2 q hq).1 w hw hw4
  · by_cases e : q = k
    · subst e; rw [q_up_o _ _ _ (by omega)]; exact (h.2 q hq).2
    · rw [q_up_ne _ _ _ (show 3 + q ≠ 3 + k by omega)]; exact (h.2 q hq).2
theorem s_setf_m {n k j v : Nat} {fa : Nat → Nat → Nat} {sh : Nat → Int32} {M M' : q_M} (h : m_bank n fa sh M) (hj : j < 4) (h0 : M'.1 34 0 = M.1 34 0) (hc : ∀ c q, c < 4 → M'.1 (35 + c) q = if q = k ∧ c = j then nI v else M.1 (35 + c) q) (h39 : M'.1 39 = M.1 39) (h40 : M'.1 40 = M.1 40) : m_bank n (s_setf fa k j v) sh M' := by
  refine ⟨h0.trans h.1, fun q hq => ?_⟩
  obtain ⟨a0, a1, a2, a3, a4, a5⟩ := h.2 q hq
  have hs : ∀ c, c < 4 → M.1 (35 + c) q = nI (fa q c) → M'.1 (35 + c) q = nI (s_setf fa k j v q c) := by
    intro c h1 h2
    rw [hc c q h1, h2]
    unfold s_setf
    split <;> rfl
  refine ⟨hs 0 (by decide) a0, hs 1 (by decide) a1, hs 2 (by decide) a2, hs 3 (by decide) a3, by rw [h39]; exact a4, fun s hs6 => ?_⟩
  rw [h40]
  unfold s_setf
  rw [if_neg (by omega)]
  exact a5 s hs6
theorem pr_set {X : q_X} {σ : q_S} (hO : ok_S σ) (q a x : Int32) : q_pr X 29 71 [.int q, .int a, .int x] σ := by
  have hn := hO.bank.1
  by_cases hc : (s_has (nI σ.n) q && s_canBe a x) = true ∧ σ.on = false
  · obtain ⟨h1, ho⟩ := hc
    have h1' := h1
    simp only [Bool.and_eq_true] at h1
    obtain ⟨hq, ha⟩ := h1
    obtain ⟨k, hk, rfl⟩ := s_has_inv hn hq
    obtain ⟨j, hj, rfl⟩ := s_canBe_lt ha
    have hno : ∀ {P : Prop}, σ.on = true → P := fun h => absurd h (by rw [ho]; decide)
    have hck : (nI k).toNatClampNeg = k := nI_clamp (by omega)
    have hcj : (nI j).toNatClampNeg = j := nI_clamp (by omega)
    obtain ⟨b1, b2⟩ := s_setf_ok (k := k) hO.bank hj ha rfl
    refine ⟨nI (σ.fa k j), (q_S.mk σ.n (s_setf σ.fa k j x.toNatClampNeg) σ.sh σ.mo σ.a σ.b σ.lo σ.hi σ.fw σ.on σ.ov σ.wn σ.ft σ.t σ.od σ.rg σ.W), ⟨b1, hO.mo, hO.ab, hO.fw, fun h => hno h⟩, fun d M h => ?_, fun d M h => ?_⟩
    · have hz := c_set X (d + 9) hn (nI k) (nI j) x M h.on h.bank.1
      rw [h1', hck, hcj, ho, s_m3, if_pos ⟨rfl, rfl⟩, (h.bank.2 k hk).1 j (by omega) (by omega)] at hz
      refine hz.p ⟨rfl, ⟨?_, fun p h1 h2 => ?_, ?_⟩, s_upf (by omega)⟩
      · have := s_setf_x (j := j) (v := x.toNatClampNeg) h.bank hn hk hj
        rw [b2] at this
        exact this
      · have h1' : σ.n ≤ p := h1
        rw [q_up_ne _ _ _ (by omega)]
        exact h.new p h1 h2
      · have hf : ∀ r, 13 ≤ r → (q_up M (3 + k) j x).1 r = M.1 r := fun r hr => q_up_ne _ _ _ (by omega)
        refine ⟨?_, ?_, ?_, fun c hc => ?_, fun c hc => ?_, fun c hc => ?_, ?_, ?_, fun h => hno h⟩
        · rw [hf 13 (by decide)]; exact h.mo
        · rw [hf 13 (by decide)]; exact h.a
        · rw [hf 13 (by decide)]; exact h.b
        · rw [hf 14 (by decide)]; exact h.lo c hc
        · rw [hf 15 (by decide)]; exact h.hi c hc
        · rw [hf 16 (by decide)]; exact h.fw c hc
        · rw [hf 23 (by decide)]; exact h.on
        · rw [hf 23 (by decide)]; exact h.ov
    · have hon0 : M.1 34 13 = 0 := by rw [h.on, ho]; rfl
      have hin : s_in (nI k) 0 (nI σ.n - 1) = true := (s_has_in hn _).trans hq
      have ha' := ha
      rw [← s_fld_canBe] at ha'
      have fin : ∀ M' : q_M, (∀ r, r < 34 ∨ 38 < r ∨ r = 34 → M'.1 r = M.1 r) → (∀ c p, c < 4 → M'.1 (35 + c) p = if p = k ∧ c = j then nI x.toNatClampNeg else M.1 (35 + c) p) → m_S (q_S.mk σ.n (s_setf σ.fa k j x.toNatClampNeg) σ.sh σ.mo σ.a σ.b σ.lo σ.hi σ.fw σ.on σ.ov σ.wn σ.ft σ.t σ.od σ.rg σ.W) M' ∧ q_fm M M' := by
        intro M' f1 f2
        refine ⟨⟨s_setf_m h.bank hj (congrFun (f1 34 (by omega)) 0) f2 (f1 39 (by omega)) (f1 40 (by omega)), ?_, ?_, ?_, fun c hc => ?_, fun c hc => ?_, fun c hc => ?_, ?_, ?_, fun h => hno h⟩, fun r hr => f1 r (by omega)⟩
        · rw [f1 34 (by omega)]; exact h.mo
        · rw [f1 34 (by omega)]; exact h.a
        · rw [f1 34 (by omega)]; exact h.b
        · rw [f1 41 (by omega)]; exact h.lo c hc
        · rw [f1 42 (by omega)]; exact h.hi c hc
        · rw [f1 43 (by omega)]; exact h.fw c hc
        · rw [f1 34 (by omega)]; exact h.on
        · rw [f1 34 (by omega)]; exact h.ov
      obtain ⟨z0, z1, z2, z3, _⟩ := h.bank.2 k hk
      have c4 : ∀ c, c < 4 → c = 0 ∨ c = 1 ∨ c = 2 ∨ c = 3 := fun c hc => by omega
      rcases c4 j hj with e | e | e | e <;> subst e
      · refine (m_set_0 X (d + 9) hn hk x M hon0 h.bank.1 hin ha').p ⟨by rw [z0], fin _ (fun r hr => ?_) (fun c p hc => ?_)⟩
        · rw [q_up_ne _ _ _ (by omega), q_up_ne _ _ _ (by omega), q_up_ne _ _ _ (by omega), q_up_ne _ _ _ (by omega)]
        · rcases c4 c hc with e | e | e | e <;> subst e
          · rw [q_up_ne _ _ _ (by decide), q_up_ne _ _ _ (by decide), q_up_ne _ _ _ (by decide), s_up_if, b2]; simp
          · rw [q_up_ne _ _ _ (by decide), q_up_ne _ _ _ (by decide), s_up_if, if_neg (fun z : p = k ∧ 1 = 0 => absurd z.2 (by decide)), q_up_ne _ _ _ (by decide)]
            split
            · rename_i z; rw [z]
            · rfl
          · rw [q_up_ne _ _ _ (by decide), s_up_if, if_neg (fun z : p = k ∧ 2 = 0 => absurd z.2 (by decide)), q_up_ne _ _ _ (by decide), q_up_ne _ _ _ (by decide)]
            split
            · rename_i z; rw [z]
            · rfl
          · rw [s_up_if, if_neg (fun z : p = k ∧ 3 = 0 => absurd z.2 (by decide)), q_up_ne _ _ _ (by decide), q_up_ne _ _ _ (by decide), q_up_ne _ _ _ (by decide)]
            split
            · rename_i z; rw [z]
            · rfl
      · refine (m_set_1 X (d + 9) hn hk x M hon0 h.bank.1 hin ha').p ⟨by rw [z1], fin _ (fun r hr => ?_) (fun c p hc => ?_)⟩
        · rw [q_up_ne _ _ _ (by omega), q_up_ne _ _ _ (by omega), q_up_ne _ _ _ (by omega), q_up_ne _ _ _ (by omega)]
        · rcases c4 c hc with e | e | e | e <;> subst e
          · rw [q_up_ne _ _ _ (by decide), q_up_ne _ _ _ (by decide), q_up_ne _ _ _ (by decide), s_up_if, if_neg (fun z : p = k ∧ 0 = 1 => absurd z.2 (by decide))]
            split
            · rename_i z; rw [z]
            · rfl
          · rw [q_up_ne _ _ _ (by decide), q_up_ne _ _ _ (by decide), s_up_if, b2, q_up_ne _ _ _ (by decide)]; simp
          · rw [q_up_ne _ _ _ (by decide), s_up_if, if_neg (fun z : p = k ∧ 2 = 1 => absurd z.2 (by decide)), q_up_ne _ _ _ (by decide), q_up_ne _ _ _ (by decide)]
            split
            · rename_i z; rw [z]
            · rfl
          · rw [s_up_if, if_neg (fun z : p = k ∧ 3 = 1 => absurd z.2 (by decide)), q_up_ne _ _ _ (by decide), q_up_ne _ _ _ (by decide), q_up_ne _ _ _ (by decide)]
            split
            · rename_i z; rw [z]
            · rfl
      · refine (m_set_2 X (d + 9) hn hk x M hon0 h.bank.1 hin ha').p ⟨by rw [z2], fin _ (fun r hr => ?_) (fun c p hc => ?_)⟩
        · rw [q_up_ne _ _ _ (by omega), q_up_ne _ _ _ (by omega), q_up_ne _ _ _ (by omega), q_up_ne _ _ _ (by omega)]
        · rcases c4 c hc with e | e | e | e <;> subst e
          · rw [q_up_ne _ _ _ (by decide), q_up_ne _ _ _ (by decide), q_up_ne _ _ _ (by decide), s_up_if, if_neg (fun z : p = k ∧ 0 = 2 => absurd z.2 (by decide))]
            split
            · rename_i z; rw [z]
            · rfl
          · rw [q_up_ne _ _ _ (by decide), q_up_ne _ _ _ (by decide), s_up_if, if_neg (fun z : p = k ∧ 1 = 2 => absurd z.2 (by decide)), q_up_ne _ _ _ (by decide)]
            split
            · rename_i z; rw [z]
            · rfl
          · rw [q_up_ne _ _ _ (by decide), s_up_if, b2, q_up_ne _ _ _ (by decide), q_up_ne _ _ _ (by decide)]; simp
          · rw [s_up_if, if_neg (fun z : p = k ∧ 3 = 2 => absurd z.2 (by decide)), q_up_ne _ _ _ (by decide), q_up_ne _ _ _ (by decide), q_up_ne _ _ _ (by decide)]
            split
            · rename_i z; rw [z]
            · rfl
      · refine (m_set_3 X (d + 9) hn hk x M hon0 h.bank.1 hin ha').p ⟨by rw [z3], fin _ (fun r hr => ?_) (fun c p hc => ?_)⟩
        · rw [q_up_ne _ _ _ (by omega), q_up_ne _ _ _ (by omega), q_up_ne _ _ _ (by omega), q_up_ne _ _ _ (by omega)]
        · rcases c4 c hc with e | e | e | e <;> subst e
          · rw [q_up_ne _ _ _ (by decide), q_up_ne _ _ _ (by decide), q_up_ne _ _ _ (by decide), s_up_if, if_neg (fun z : p = k ∧ 0 = 3 => absurd z.2 (by decide))]
            split
            · rename_i z; rw [z]
            · rfl
          · rw [q_up_ne _ _ _ (by decide), q_up_ne _ _ _ (by decide), s_up_if, if_neg (fun z : p = k ∧ 1 = 3 => absurd z.2 (by decide)), q_up_ne _ _ _ (by decide)]
            split
            · rename_i z; rw [z]
            · rfl
          · rw [q_up_ne _ _ _ (by decide), s_up_if, if_neg (fun z : p = k ∧ 2 = 3 => absurd z.2 (by decide)), q_up_ne _ _ _ (by decide), q_up_ne _ _ _ (by decide)]
            split
            · rename_i z; rw [z]
            · rfl
          · rw [s_up_if, b2, q_up_ne _ _ _ (by decide), q_up_ne _ _ _ (by decide), q_up_ne _ _ _ (by decide)]; simp
  · have hon : (s_has (nI σ.n) q && s_canBe a x) = true → σ.on = true := by
      intro h1
      cases ho : σ.on with
      | true => rfl
      | false => exact absurd ⟨h1, ho⟩ hc
    refine q_pr.same (if (s_has (nI σ.n) q && s_canBe a x) = true then -2 else -1) hO (fun d M h => ?_) (fun d M h => ?_)
    · have hz := c_set X (d + 9) hn q a x M h.on h.bank.1
      rw [s_m3, if_neg hc] at hz
      cases h1 : (s_has (nI σ.n) q && s_canBe a x) with
      | true => rw [h1, hon h1] at hz; exact hz
      | false => rw [h1] at hz; exact hz
    · have e1 : (s_in q 0 (nI σ.n - 1) && s_fld a x) = (s_has (nI σ.n) q && s_canBe a x) := by rw [s_has_in hn, s_fld_canBe]
      have hz := m_set_no X (d + 9) q a x M h.on h.bank.1 (by rw [e1]; exact hon)
      rw [e1] at hz
      exact hz
theorem pr_about {X : q_X} {σ : q_S} (hO : ok_S σ) (q v : Int32) : q_pr X 34 76 [.int q, .int v] σ := by
  have hn := hO.bank.1
  cases hc : (s_has (nI σ.n) q && s_in v 0 10) with
  | false =>
    refine q_pr.same (-1) hO (fun d M h => ?_) (fun d M h => ?_)
    · have hz := c_about X (d + 9) hn q v M h.bank.1
      rw [hc] at hz
      exact hz
    · exact m_about_no X (d + 9) q v M h.bank.1 (by rw [s_has_in hn]; exact hc)
  | true =>
    have hc' := hc
    simp only [Bool.and_eq_true] at hc'
    obtain ⟨hq, hv⟩ := hc'
    obtain ⟨k, hk, rfl⟩ := s_has_inv hn hq
    obtain ⟨j, _, hj, rfl⟩ := s_in_inv (a := 0) (b := 10) (by decide) (by decide) hv
    have hin : s_in (nI k) 0 (nI σ.n - 1) = true := (s_has_in hn _).trans hq
    have hck : (nI k).toNatClampNeg = k := nI_clamp (by omega)
    have hcj : (nI j).toNatClampNeg = j := nI_clamp (by omega)
    refine q_pr.same (if j = 4 then σ.sh k else nI (σ.fa k j)) hO (fun d M h => ?_) (fun d M h => ?_)
    · have hz := c_about X (d + 9) hn (nI k) (nI j) M h.bank.1
      rw [hc, if_pos rfl, hck, hcj] at hz
      by_cases e : j = 4
      · subst e
        rw [(h.bank.2 k hk).2] at hz
        rw [if_pos rfl]
        exact hz
      · rw [(h.bank.2 k hk).1 j (by omega) e] at hz
        rw [if_neg e]
        exact hz
    · obtain ⟨z0, z1, z2, z3, z4, z5⟩ := h.bank.2 k hk
      rcases s_v11 (v := j) (by omega) with e | e | e | e | e | e | e | e | e | e | e <;> subst e
      · rw [if_neg (by decide), ← z0]; exact m_about_0 X (d + 9) hn hk M h.bank.1 hin
      · rw [if_neg (by decide), ← z1]; exact m_about_1 X (d + 9) hn hk M h.bank.1 hin
      · rw [if_neg (by decide), ← z2]; exact m_about_2 X (d + 9) hn hk M h.bank.1 hin
      · rw [if_neg (by decide), ← z3]; exact m_about_3 X (d + 9) hn hk M h.bank.1 hin
      · rw [if_pos rfl, ← z4]; exact m_about_4 X (d + 9) hn hk M h.bank.1 hin
      · rw [if_neg (by decide), ← z5 0 (by decide)]; exact m_about_5 X (d + 9) hn hk M h.bank.1 hin
      · rw [if_neg (by decide), ← z5 1 (by decide)]; exact m_about_6 X (d + 9) hn hk M h.bank.1 hin
      · rw [if_neg (by decide), ← z5 2 (by decide)]; exact m_about_7 X (d + 9) hn hk M h.bank.1 hin
      · rw [if_neg (by decide), ← z5 3 (by decide)]; exact m_about_8 X (d + 9) hn hk M h.bank.1 hin
      · rw [if_neg (by decide), ← z5 4 (by decide)]; exact m_about_9 X (d + 9) hn hk M h.bank.1 hin
      · rw [if_neg (by decide), ← z5 5 (by decide)]; exact m_about_10 X (d + 9) hn hk M h.bank.1 hin
