/-! Pairs: fit, begin, done, now, asked, may, gain, count. -/
theorem x_S.on0 {σ : q_S} {M : q_M} (h : x_S σ M) (ho : σ.on = false) : M.1 23 0 = 0 := by rw [h.on, ho]; rfl
theorem x_S.on1 {σ : q_S} {M : q_M} (h : x_S σ M) (ho : σ.on = true) : M.1 23 0 = 1 := by rw [h.on, ho]; rfl
theorem m_S.on0 {σ : q_S} {M : q_M} (h : m_S σ M) (ho : σ.on = false) : M.1 34 13 = 0 := by rw [h.on, ho]; rfl
theorem m_S.on1 {σ : q_S} {M : q_M} (h : m_S σ M) (ho : σ.on = true) : M.1 34 13 = 1 := by rw [h.on, ho]; rfl
/-- which sets are fit, as a sitting begins -/
def s_ft (σ : q_S) (U : Nat) : Bool := s_mf σ.n σ.fa σ.sh σ.lo σ.hi (nI σ.mo) U
theorem x_S.ft {σ : q_S} {M : q_M} (hO : ok_S σ) (h : x_S σ M) {U : Nat} (hU : U < 2 ^ σ.n) : s_fx σ.n σ.fa (s_wn σ.fa σ.sh) (M.1 13 0) (M.1 14) (M.1 15) U = s_ft σ U := by
  unfold s_ft
  rw [h.mo]
  exact s_fx_mf hO.bank h.lo h.hi hU
theorem m_S.ft {σ : q_S} {M : q_M} (hO : ok_S σ) (h : m_S σ M) {U : Nat} (hU : U < 2 ^ σ.n) : s_mf σ.n σ.fa σ.sh (M.1 41) (M.1 42) (M.1 34 7) U = s_ft σ U := by
  unfold s_ft
  rw [h.mo]
  exact (s_fx_mf hO.bank (lo := σ.lo) (hi := σ.hi) (fun c hc => (h.lo c hc).symm) (fun c hc => (h.hi c hc).symm) hU).symm.trans (s_fx_mf hO.bank (fun _ _ => rfl) (fun _ _ => rfl) hU)
theorem s_ft_pc {σ : q_S} (hO : ok_S σ) {U : Nat} (h : s_ft σ U = true) : s_pc σ.n U ≤ 6 := by
  unfold s_ft s_mf at h
  rw [Bool.and_eq_true, decide_eq_true_iff] at h
  have h1 := s_ct_le (fun q => U.testBit q) σ.n
  have h2 := hO.bank.1
  have h3 := hO.mo.2
  have h4 := (nI_leI (by omega) (by omega)).mp h.2
  show s_ct σ.n (fun q => U.testBit q) ≤ 6
  omega
theorem x_S.keepo {σ : q_S} {M M' : q_M} (hO : ok_S σ) (ho : σ.on = false) (h : x_S σ M) (hf : ∀ r, r < 17 → M'.1 r = M.1 r) (h0 : M'.1 23 0 = M.1 23 0) (h1 : M'.1 23 1 = M.1 23 1) : x_S σ M' := ⟨h.bank.keepn hO.bank.1 (fun r hr => hf r (by omega)),
  fun q h1 h2 => by rw [hf (3 + q) (by omega)]; exact h.new q h1 h2,
  by rw [hf 13 (by decide)]; exact h.mo,
  by rw [hf 13 (by decide)]; exact h.a,
  by rw [hf 13 (by decide)]; exact h.b,
  fun c hc => by rw [hf 14 (by decide)]; exact h.lo c hc,
  fun c hc => by rw [hf 15 (by decide)]; exact h.hi c hc,
  fun c hc => by rw [hf 16 (by decide)]; exact h.fw c hc,
  h0.trans h.on,
  h1.trans h.ov,
  fun z => absurd z (by rw [ho]; decide)⟩
theorem m_S.keepo {σ : q_S} {M M' : q_M} (ho : σ.on = false) (h : m_S σ M) (hf : ∀ r, 34 ≤ r → r ≤ 43 → M'.1 r = M.1 r) : m_S σ M' := ⟨h.bank.keep (congrFun (hf 34 (by decide) (by decide)) 0) (fun r h1 h2 => hf r (by omega) (by omega)),
  by rw [hf 34 (by decide) (by decide)]; exact h.mo,
  by rw [hf 34 (by decide) (by decide)]; exact h.a,
  by rw [hf 34 (by decide) (by decide)]; exact h.b,
  fun c hc => by rw [hf 41 (by decide) (by decide)]; exact h.lo c hc,
  fun c hc => by rw [hf 42 (by decide) (by decide)]; exact h.hi c hc,
  fun c hc => by rw [hf 43 (by decide) (by decide)]; exact h.fw c hc,
  by rw [hf 34 (by decide) (by decide)]; exact h.on,
  by rw [hf 34 (by decide) (by decide)]; exact h.ov,
  fun z => absurd z (by rw [ho]; decide)⟩
theorem pr_fit {X : q_X} {σ : q_S} (hO : ok_S σ) : q_pr X 35 81 [] σ := by
  cases ho : σ.on with
  | true => exact q_pr.same (-2) hO (fun d M h => c_fit_on X (d + 7) M (h.on1 ho)) (fun d M h => m_fit_on X (d + 7) M (h.on1 ho))
  | false =>
    refine ⟨nI (s_ct (2 ^ σ.n) (s_ft σ)), σ, hO, fun d M h => (c_fit_off X (d + 7) hO.bank M h.bank (h.on0 ho)).mono (fun r M' z => ?_), fun d M h => (m_fit_off X (d + 7) hO.bank M h.bank (h.on0 ho)).mono (fun r M' z => ?_)⟩
    · obtain ⟨z1, z2⟩ := z
      refine ⟨?_, h.keepo hO ho (fun r hr => z2 r (by omega)) (congrFun (z2 23 (by decide)) 0) (congrFun (z2 23 (by decide)) 1), fun r hr => z2 r (by omega)⟩
      rw [z1, s_ct_c (fun U hU => h.ft hO hU)]
    · obtain ⟨z1, z2⟩ := z
      refine ⟨?_, h.keepo ho (fun r h1 h2 => z2 r (by omega) (by omega)), fun r hr => z2 r (by omega) (by omega)⟩
      rw [z1, s_ct_c (fun U hU => h.ft hO hU)]
theorem s_can_c {ft ft' : Nat → Bool} {n : Nat} (h : ∀ U, U < 2 ^ n → ft U = ft' U) : ∀ (m U : Nat), 2 ^ n - U ≤ m → U < 2 ^ n → s_can ft n U = s_can ft' n U
  | 0, U, hm, hU => absurd hU (by omega)
  | m + 1, U, hm, hU => by
    rw [s_can_eq ft hU, s_can_eq ft' hU, h U hU]
    congr 1
    refine s_any_c (fun i hi => ?_)
    unfold s_nb
    cases hb : U.testBit i with
    | true => rfl
    | false => rw [s_can_c h m (U ||| 2 ^ i) (by have := s_orgt hb; omega) (s_orlt hU hi)]
theorem x_set.cg {n : Nat} {fa : Nat → Nat → Nat} {wn ft ft' : Nat → Bool} {M : q_M} (hs : x_set n fa wn ft M) (h : ∀ U, U < 2 ^ n → ft U = ft' U) : x_set n fa wn ft' M := ⟨hs.1, hs.2.1, fun U hU => by rw [hs.2.2.1 U hU, h U hU], fun U hU => by rw [hs.2.2.2 U hU, s_can_c h _ U (Nat.le_refl _) hU]⟩
theorem s_may_c {n S q : Nat} {fa : Nat → Nat → Nat} {cn cn' : Nat → Bool} (h : cn (S ||| 2 ^ q) = cn' (S ||| 2 ^ q)) : s_may n fa cn S q = s_may n fa cn' S q := by
  unfold s_may
  rw [h]
theorem s_mayct_c {n S : Nat} {fa : Nat → Nat → Nat} {ft ft' : Nat → Bool} (hS : S < 2 ^ n) (h : ∀ U, U < 2 ^ n → ft U = ft' U) : s_ct n (s_may n fa (s_can ft n) S) = s_ct n (s_may n fa (s_can ft' n) S) := s_ct_c (fun q hq => s_may_c (s_can_c h _ _ (Nat.le_refl _) (s_orlt hS hq)))
theorem pr_begin {X : q_X} {σ : q_S} (hO : ok_S σ) : q_pr X 36 86 [] σ := by
  have hn := hO.bank.1
  have h2n : 0 < 2 ^ σ.n := Nat.two_pow_pos _
  cases ho : σ.on with
  | true => exact q_pr.same (-2) hO (fun d M h => c_begin_on X (d + 7) M (h.on1 ho)) (fun d M h => m_begin_on X (d + 7) M (h.on1 ho))
  | false =>
    by_cases hc : s_ct (2 ^ σ.n) (s_ft σ) = 0
    · refine ⟨-2, σ, hO, fun d M h => (c_begin_off X (d + 7) hO.bank M h.bank (h.on0 ho)).mono (fun r M' z => ?_), fun d M h => (m_begin_off X (d + 7) hO.bank M h.bank (h.on0 ho)).mono (fun r M' z => ?_)⟩
      · obtain ⟨z0, z⟩ := z
        rw [s_ct_c (fun U hU => h.ft hO hU)] at z
        rcases z with ⟨_, z1, z2, z3⟩ | ⟨z1, _⟩
        · exact ⟨z1, h.keepo hO ho (fun r hr => z0 r (by omega)) (z2.trans (h.on0 ho).symm) z3, fun r hr => z0 r (by omega)⟩
        · exact absurd hc z1
      · rw [s_ct_c (fun U hU => h.ft hO hU)] at z
        rcases z with ⟨_, z1, z2⟩ | ⟨z1, _⟩
        · exact ⟨z1, h.keepo ho (fun r h1 h2 => z2 r (by omega) (by omega)), fun r hr => z2 r (by omega) (by omega)⟩
        · exact absurd hc z1
    · refine ⟨nI (s_ct σ.n (s_may σ.n σ.fa (s_can (s_ft σ) σ.n) 0)), (q_S.mk σ.n σ.fa σ.sh σ.mo σ.a σ.b σ.lo σ.hi σ.fw true σ.ov (s_wn σ.fa σ.sh) (s_ft σ) 0 σ.od σ.rg (fun _ s => σ.fw s)), ?_, fun d M h => (c_begin_off X (d + 7) hO.bank M h.bank (h.on0 ho)).mono (fun r M' z => ?_), fun d M h => (m_begin_off X (d + 7) hO.bank M h.bank (h.on0 ho)).mono (fun r M' z => ?_)⟩
      · refine ⟨hO.bank, hO.mo, hO.ab, hO.fw, fun _ => ⟨Nat.zero_le _, fun i hi => absurd hi (Nat.not_lt_zero _), fun i hi => absurd hi (Nat.not_lt_zero _), fun i hi => ?_, fun U _ hu => s_ft_pc hO hu, fun r hr s hs => ?_⟩⟩
        · have e : i = 0 := Nat.le_zero.mp hi
          subst e
          exact s_og_0 _ _
        · have e : r = 0 := Nat.le_zero.mp hr
          subst e
          exact hO.fw s hs
      · obtain ⟨z0, z⟩ := z
        rcases z with ⟨z1, _⟩ | ⟨_, z1, z2, z3, z4, z5, z6, z7⟩
        · rw [s_ct_c (fun U hU => h.ft hO hU)] at z1
          exact absurd z1 hc
        · refine ⟨?_, ⟨h.bank.keepn hn (fun r hr => z0 r (by omega)), fun q h1 h2 => ?_, ?_, ?_, ?_, fun c hc => ?_, fun c hc => ?_, fun c hc => ?_, z3, z4.trans h.ov, fun _ => ⟨z2.cg (fun U hU => h.ft hO hU), z5, z6, fun i hi => absurd hi (Nat.not_lt_zero _), fun i hi => absurd hi (Nat.not_lt_zero _), fun r hr s hs => ?_⟩⟩, fun r hr => z0 r (by omega)⟩
          · rw [z1, s_bcN hn (s_xm_lt _ _ _ _), s_xm_ct hO.bank h2n (s_og_0 _ _), s_mayct_c h2n (fun U hU => h.ft hO hU)]
          · rw [z0 (3 + q) (by omega)]; exact h.new q h1 h2
          · rw [z0 13 (by decide)]; exact h.mo
          · rw [z0 13 (by decide)]; exact h.a
          · rw [z0 13 (by decide)]; exact h.b
          · rw [z0 14 (by decide)]; exact h.lo c hc
          · rw [z0 15 (by decide)]; exact h.hi c hc
          · rw [z0 16 (by decide)]; exact h.fw c hc
          · have e : r = 0 := Nat.le_zero.mp hr
            subst e
            exact (z7 s hs).trans (h.fw s hs)
      · rcases z with ⟨z1, _⟩ | ⟨_, z1, z2, z3, z4, z5, z6, z7, z8⟩
        · rw [s_ct_c (fun U hU => h.ft hO hU)] at z1
          exact absurd z1 hc
        · refine ⟨?_, ⟨h.bank.keep (z3 0 (by decide) (by decide)) (fun r h1 h2 => z2 r (by omega) (by omega) (by omega) (by omega)), (z3 7 (by decide) (by decide)).trans h.mo, (z3 10 (by decide) (by decide)).trans h.a, (z3 11 (by decide) (by decide)).trans h.b, fun c hc => ?_, fun c hc => ?_, fun c hc => ?_, z4, (z3 14 (by decide) (by decide)).trans h.ov, fun _ => ⟨fun U hU => ?_, fun U hU => ?_, ⟨z5, fun i hi => absurd hi (Nat.not_lt_zero _)⟩, fun i hi => absurd hi (Nat.not_lt_zero _), fun r hr s hs => ?_⟩⟩, fun r hr => z2 r (by omega) (by omega) (by omega) (by omega)⟩
          · rw [z1, s_mayct_c h2n (fun U hU => h.ft hO hU)]
          · rw [z2 41 (by decide) (by decide) (by decide) (by decide)]; exact h.lo c hc
          · rw [z2 42 (by decide) (by decide) (by decide) (by decide)]; exact h.hi c hc
          · rw [z2 43 (by decide) (by decide) (by decide) (by decide)]; exact h.fw c hc
          · rw [z6 U hU, h.ft hO hU]; rfl
          · rw [z7 U hU, s_can_c (fun U hU => h.ft hO hU) _ U (Nat.le_refl _) hU]; rfl
          · have e : r = 0 := Nat.le_zero.mp hr
            subst e
            rw [show 6 * 0 + s = s by omega]
            exact (z8 s hs).trans (h.fw s hs)
