/-! Pairs: answer, back, end, quit. -/
theorem s_t5 {σ : q_S} (hZ : ok_Z σ) {k : Nat} (hk : k < σ.n) (hm : s_my σ k = true) : σ.t ≤ 5 := by
  obtain ⟨m1, m2, _⟩ := s_may_1 hm
  have h1 := s_can_pc hZ.fit _ (s_as σ.od σ.t ||| 2 ^ k) (Nat.le_refl _) (s_orlt hZ.lt hk) m2
  rw [s_pc_s hk m1, s_as_pc hZ _ (Nat.le_refl _)] at h1
  omega
theorem s_as_c {od od' : Nat → Nat} : ∀ {i : Nat}, (∀ j, j < i → od j = od' j) → s_as od i = s_as od' i
  | 0, _ => rfl
  | i + 1, h => by rw [s_as, s_as, s_as_c (fun j hj => h j (by omega)), h i (by omega)]
theorem pr_answer {X : q_X} {σ : q_S} (hO : ok_S σ) (q : Int32) (rg : Bool) : q_pr X 38 96 [.int q, .int (q_b rg)] σ := by
  have hn := hO.bank.1
  cases ho : σ.on with
  | false =>
    refine q_pr.same (if s_has (nI σ.n) q = true then -2 else -1) hO (fun d M h => c_answer_off X (d + 6) q rg M h.bank.1 (h.on0 ho)) (fun d M h => ?_)
    have hz := m_answer_off X (d + 6) q rg M h.bank.1 (h.on0 ho)
    rw [s_has_in hn] at hz
    exact hz
  | true =>
    have hZ := hO.sit ho
    by_cases hc : s_has (nI σ.n) q = true ∧ s_dn σ = 0 ∧ s_my σ q.toNatClampNeg = true
    · obtain ⟨hq, hd, hm⟩ := hc
      obtain ⟨k, hk, rfl⟩ := s_has_inv hn hq
      rw [nI_clamp (by omega)] at hm
      have ht5 := s_t5 hZ hk hm
      obtain ⟨m1, m2, m3⟩ := s_may_1 hm
      have hod : ∀ i, i < σ.t → (if i = σ.t then k else σ.od i) = σ.od i := fun i hi => if_neg (by omega)
      have has : ∀ i, i ≤ σ.t → s_as (fun i => if i = σ.t then k else σ.od i) i = s_as σ.od i := fun i hi => s_as_c (fun j hj => hod j (by omega))
      have has1 : s_as (fun i => if i = σ.t then k else σ.od i) (σ.t + 1) = s_as σ.od σ.t ||| 2 ^ k := by
        rw [s_as, has _ (Nat.le_refl _), if_pos rfl]
      have hW1 : ∀ s, s < 6 → 1 ≤ n_mul (σ.W σ.t) σ.fa k rg s ∧ n_mul (σ.W σ.t) σ.fa k rg s ≤ 3 * 4 ^ (σ.t + 1) := fun s hs => by
        have := n_mul_b hO.bank hk hs (hZ.W σ.t (Nat.le_refl _) s hs) rg
        rw [Nat.pow_succ]
        omega
      refine ⟨nI (σ.t + 1), (q_S.mk σ.n σ.fa (fun q => if q = k then σ.sh q + 1 else σ.sh q) σ.mo σ.a σ.b σ.lo σ.hi σ.fw σ.on σ.ov σ.wn σ.ft (σ.t + 1) (fun i => if i = σ.t then k else σ.od i) (fun i => if i = σ.t then rg else σ.rg i) (fun r => if r = σ.t + 1 then n_mul (σ.W σ.t) σ.fa k rg else σ.W r)), ?_, fun d M h => ?_, fun d M h => ?_⟩
      · refine ⟨hO.bank, hO.mo, hO.ab, hO.fw, fun _ => ⟨?_, fun i hi => ?_, fun i hi => ?_, fun i hi => ?_, hZ.fit, fun r hr s hs => ?_⟩⟩
        · show σ.t + 1 ≤ 6
          omega
        · have hi : i < σ.t + 1 := hi
          show (if i = σ.t then k else σ.od i) < σ.n
          by_cases e : i = σ.t
          · rw [if_pos e]; exact hk
          · rw [if_neg e]; exact hZ.od i (by omega)
        · have hi : i < σ.t + 1 := hi
          show (s_as (fun i => if i = σ.t then k else σ.od i) i).testBit (if i = σ.t then k else σ.od i) = false
          rw [has i (by omega)]
          by_cases e : i = σ.t
          · rw [if_pos e, e]; exact m1
          · rw [if_neg e]; exact hZ.di i (by omega)
        · have hi : i ≤ σ.t + 1 := hi
          show s_og σ.n σ.fa (s_as (fun i => if i = σ.t then k else σ.od i) i)
          by_cases e : i = σ.t + 1
          · rw [e, has1]; exact s_og_s (hZ.og _ (Nat.le_refl _)) hk hm
          · rw [has i (by omega)]; exact hZ.og i (by omega)
        · have hr : r ≤ σ.t + 1 := hr
          show 1 ≤ (if r = σ.t + 1 then n_mul (σ.W σ.t) σ.fa k rg else σ.W r) s ∧ (if r = σ.t + 1 then n_mul (σ.W σ.t) σ.fa k rg else σ.W r) s ≤ 3 * 4 ^ r
          by_cases e : r = σ.t + 1
          · rw [if_pos e, e]; exact hW1 s hs
          · rw [if_neg e]; exact hZ.W r (by omega) s hs
      · have hx := h.sit ho
        refine (c_answer_ok X (d + 6) hn hZ.lt hZ.t hk ht5 rg M h.bank (h.on1 ho) hx.set hx.A hx.t ((h.dn hO ho).trans hd) ((s_xb hO ho hk).trans hm)).mono (fun r M' z => ?_)
        obtain ⟨z1, z2, z3, z4, z5, z6, z7, z8, z9, z10⟩ := z
        have f : ∀ r, 13 ≤ r → r < 23 → M'.1 r = M.1 r := fun r h1 h2 => z2 r (by omega) (by omega) (by omega) (by omega) (by omega)
        refine ⟨z1, ⟨z3, fun p h1 h2 => ?_, ?_, ?_, ?_, fun c hc => ?_, fun c hc => ?_, fun c hc => ?_, ?_, z6.trans h.ov, fun _ => ⟨hx.set.keep (fun r h1 h2 => f r (by omega) (by omega)), z7, ?_, fun i hi => ?_, fun i hi => ?_, fun r hr s hs => ?_⟩⟩, fun r hr => z2 r (by omega) (by omega) (by omega) (by omega) (by omega)⟩
        · have h1 : σ.n ≤ p := h1
          rw [z2 (3 + p) (by omega) (by omega) (by omega) (by omega) (by omega)]; exact h.new p h1 h2
        · rw [f 13 (by decide) (by decide)]; exact h.mo
        · rw [f 13 (by decide) (by decide)]; exact h.a
        · rw [f 13 (by decide) (by decide)]; exact h.b
        · rw [f 14 (by decide) (by decide)]; exact h.lo c hc
        · rw [f 15 (by decide) (by decide)]; exact h.hi c hc
        · rw [f 16 (by decide) (by decide)]; exact h.fw c hc
        · rw [z5]; show (1 : Int32) = q_b σ.on; rw [ho]; rfl
        · rw [z8]; exact congrArg nI has1.symm
        · have hi : i < σ.t + 1 := hi
          rw [z9]
          show _ = nI (if i = σ.t then k else σ.od i)
          by_cases e : i = σ.t
          · rw [if_pos e, if_pos e]
          · rw [if_neg e, if_neg e]; exact hx.od i (by omega)
        · have hi : i < σ.t + 1 := hi
          rw [z10]
          show _ = q_b (if i = σ.t then rg else σ.rg i)
          by_cases e : i = σ.t
          · rw [if_pos e, if_pos e]
          · rw [if_neg e, if_neg e]; exact hx.rg i (by omega)
        · have hr : r ≤ σ.t + 1 := hr
          show _ = nI ((if r = σ.t + 1 then n_mul (σ.W σ.t) σ.fa k rg else σ.W r) s)
          by_cases e : r = σ.t + 1
          · rw [if_pos e, e, z4 s hs, hx.W σ.t (Nat.le_refl _) s hs, s_fac_N hO.bank h.bank hk hs rg, pk_mul]
            rfl
          · rw [if_neg e, z2 (27 + r) (by omega) (by omega) (by omega) (by omega) (by omega)]; exact hx.W r (by omega) s hs
      · have hx := h.sit ho
        refine (m_answer_ok X (d + 6) hO.bank (hZ.ask hO) hZ.lt hk ht5 rg M h.bank (h.on1 ho) hx.ft hx.cn hx.ask ((s_done_3 _ _ _).mpr ((h.dn hO ho).trans hd)) hm).mono (fun r M' z => ?_)
        obtain ⟨z1, z2, z3, z4, z5, z6, z7, z8, z9⟩ := z
        refine ⟨z1, ⟨h.bank.shn (k := k) (v := 1) (z3 0 (by decide)) (fun r h1 h2 h3 => z2 r (by omega) (by omega) (by omega) (by omega) (by omega)) z5, (z3 7 (by decide)).trans h.mo, (z3 10 (by decide)).trans h.a, (z3 11 (by decide)).trans h.b, fun c hc => ?_, fun c hc => ?_, fun c hc => ?_, (z3 13 (by decide)).trans h.on, (z3 14 (by decide)).trans h.ov, fun _ => ⟨fun U hU => ?_, fun U hU => ?_, ⟨z4, fun i hi => ?_⟩, fun i hi => ?_, fun r hr s hs => ?_⟩⟩, fun r hr => z2 r (by omega) (by omega) (by omega) (by omega) (by omega)⟩
        · rw [z2 41 (by decide) (by decide) (by decide) (by decide) (by decide)]; exact h.lo c hc
        · rw [z2 42 (by decide) (by decide) (by decide) (by decide) (by decide)]; exact h.hi c hc
        · rw [z2 43 (by decide) (by decide) (by decide) (by decide) (by decide)]; exact h.fw c hc
        · rw [z2 47 (by decide) (by decide) (by decide) (by decide) (by decide)]; exact hx.ft U hU
        · rw [z2 48 (by decide) (by decide) (by decide) (by decide) (by decide)]; exact hx.cn U hU
        · have hi : i < σ.t + 1 := hi
          rw [z6]
          show _ = nI (if i = σ.t then k else σ.od i)
          by_cases e : i = σ.t
          · rw [if_pos e, if_pos e]
          · rw [if_neg e, if_neg e]; exact hx.ask.2 i (by omega)
        · have hi : i < σ.t + 1 := hi
          rw [z7]
          show _ = q_b (if i = σ.t then rg else σ.rg i)
          by_cases e : i = σ.t
          · rw [if_pos e, if_pos e]
          · rw [if_neg e, if_neg e]; exact hx.rg i (by omega)
        · have hr : r ≤ σ.t + 1 := hr
          show _ = nI ((if r = σ.t + 1 then n_mul (σ.W σ.t) σ.fa k rg else σ.W r) s)
          by_cases e : r = σ.t + 1
          · rw [if_pos e, e, z9 s hs, hx.W σ.t (Nat.le_refl _) s hs, s_facM_N hO.bank h.bank hk hs rg, pk_mul]
            rfl
          · rw [if_neg e, z8 _ (by omega)]; exact hx.W r (by omega) s hs
    · have hno : s_has (nI σ.n) q = true → s_dn σ = 0 → s_my σ q.toNatClampNeg = false := by
        intro h1 h2
        cases h3 : s_my σ q.toNatClampNeg with
        | false => rfl
        | true => exact absurd ⟨h1, h2, h3⟩ hc
      refine q_pr.same (if s_has (nI σ.n) q = true then -2 else -1) hO (fun d M h => ?_) (fun d M h => ?_)
      · have hx := h.sit ho
        refine c_answer_no X (d + 6) hn hZ.lt hZ.t q rg M h.bank.1 (h.on1 ho) hx.set hx.A hx.t (fun h1 h2 => ?_)
        obtain ⟨k, hk, rfl⟩ := s_has_inv hn h1
        have h3 := hno h1 ((h.dn hO ho).symm.trans h2)
        rw [nI_clamp (by omega)] at h3 ⊢
        rw [s_xb hO ho hk]
        exact h3
      · have hx := h.sit ho
        have hz := m_answer_no X (d + 6) hO.bank (hZ.ask hO) hZ.lt q rg M h.bank (h.on1 ho) hx.ft hx.cn hx.ask (fun h1 h2 => hno ((s_has_in hn q).symm.trans h1) ((h.dn hO ho).symm.trans ((s_done_3 _ _ _).mp h2)))
        rw [s_has_in hn] at hz
        exact hz
theorem pr_back {X : q_X} {σ : q_S} (hO : ok_S σ) : q_pr X 39 97 [] σ := by
  have hn := hO.bank.1
  cases ho : σ.on with
  | false => exact q_pr.same (-2) hO (fun d M h => c_back_off X (d + 8) M (h.on0 ho)) (fun d M h => m_back_off X (d + 10) M (h.on0 ho))
  | true =>
    have hZ := hO.sit ho
    by_cases ht0 : σ.t = 0
    · exact q_pr.same (-2) hO (fun d M h => c_back_no X (d + 8) M (h.on1 ho) ((h.sit ho).t.trans (by rw [ht0]; rfl))) (fun d M h => m_back_no X (d + 10) M (h.on1 ho) ((h.sit ho).ask.1.trans (by rw [ht0]; rfl)))
    · obtain ⟨t, ht⟩ : ∃ t, σ.t = t + 1 := ⟨σ.t - 1, by omega⟩
      have ht6 := hZ.t
      have hk := hZ.od t (by omega)
      have hA := s_as_lt hZ t (by omega)
      have hp := s_pw hn
      refine ⟨nI t, (q_S.mk σ.n σ.fa (fun q => if q = σ.od t then σ.sh q + (-1) else σ.sh q) σ.mo σ.a σ.b σ.lo σ.hi σ.fw σ.on σ.ov σ.wn σ.ft t σ.od σ.rg σ.W), ⟨hO.bank, hO.mo, hO.ab, hO.fw, fun _ => ⟨?_, fun i hi => ?_, fun i hi => ?_, fun i hi => ?_, hZ.fit, fun r hr s hs => ?_⟩⟩, fun d M h => ?_, fun d M h => ?_⟩
      · have h7 : t ≤ 6 := by omega
        exact h7
      · have hi : i < t := hi
        exact hZ.od i (by omega)
      · have hi : i < t := hi
        exact hZ.di i (by omega)
      · have hi : i ≤ t := hi
        exact hZ.og i (by omega)
      · have hr : r ≤ t := hr
        exact hZ.W r (by omega) s hs
      · have hx := h.sit ho
        have hT := hx.t
        have hAM := hx.A
        rw [ht] at hT hAM
        refine (c_back_ok X (d + 8) (A := s_as σ.od t) hn (by omega) (by omega) hk (hZ.di t (by omega)) M h.bank.1 (h.on1 ho) hT hAM (hx.od t (by omega))).p ⟨rfl, ?_⟩
        have hb2 : x_bank σ.n σ.fa σ.sh (q_up (q_up M 23 2 (nI t)) 23 3 (nI (s_as σ.od t))) := h.bank.keepn hn (fun r hr => (q_up_ne _ _ _ (by omega)).trans (q_up_ne _ _ _ (by omega)))
        have e1 : M.1 (3 + σ.od t) = (q_up (q_up M 23 2 (nI t)) 23 3 (nI (s_as σ.od t))).1 (3 + σ.od t) := ((q_up_ne _ _ _ (by omega)).trans (q_up_ne _ _ _ (by omega))).symm
        rw [e1]
        have f : ∀ (v : Int32) (r : Nat), r ≠ 23 → r ≠ 3 + σ.od t → (q_up (q_up (q_up M 23 2 (nI t)) 23 3 (nI (s_as σ.od t))) (3 + σ.od t) 4 v).1 r = M.1 r := fun v r h1 h2 => (q_up_ne _ _ _ h2).trans ((q_up_ne _ _ _ h1).trans (q_up_ne _ _ _ h1))
        have g : ∀ (v : Int32), (q_up (q_up (q_up M 23 2 (nI t)) 23 3 (nI (s_as σ.od t))) (3 + σ.od t) 4 v).1 23 = (q_up (q_up M 23 2 (nI t)) 23 3 (nI (s_as σ.od t))).1 23 := fun v => q_up_ne _ _ _ (by omega)
        refine ⟨⟨hb2.shn hn hk (-1), fun p h1 h2 => ?_, ?_, ?_, ?_, fun c hc => ?_, fun c hc => ?_, fun c hc => ?_, ?_, ?_, fun _ => ⟨hx.set.keep (fun r h1 h2 => f _ r (by omega) (by omega)), ?_, ?_, fun i hi => ?_, fun i hi => ?_, fun r hr s hs => ?_⟩⟩, fun r hr => f _ r (by omega) (by omega)⟩
        · have h1 : σ.n ≤ p := h1
          rw [f _ (3 + p) (by omega) (by omega)]; exact h.new p h1 h2
        · rw [f _ 13 (by omega) (by omega)]; exact h.mo
        · rw [f _ 13 (by omega) (by omega)]; exact h.a
        · rw [f _ 13 (by omega) (by omega)]; exact h.b
        · rw [f _ 14 (by omega) (by omega)]; exact h.lo c hc
        · rw [f _ 15 (by omega) (by omega)]; exact h.hi c hc
        · rw [f _ 16 (by omega) (by omega)]; exact h.fw c hc
        · rw [g, q_up_o _ _ _ (by decide), q_up_o _ _ _ (by decide)]; exact h.on
        · rw [g, q_up_o _ _ _ (by decide), q_up_o _ _ _ (by decide)]; exact h.ov
        · rw [g, q_up_o _ _ _ (by decide), q_up_s]; rfl
        · rw [g, q_up_s]; rfl
        · have hi : i < t := hi
          rw [f _ 24 (by omega) (by omega)]; exact hx.od i (by omega)
        · have hi : i < t := hi
          rw [f _ 25 (by omega) (by omega)]; exact hx.rg i (by omega)
        · have hr : r ≤ t := hr
          rw [f _ (27 + r) (by omega) (by omega)]; exact hx.W r (by omega) s hs
      · have hx := h.sit ho
        have hT := hx.ask.1
        rw [ht] at hT
        have hz := m_back_ok X (d + 10) (t := t) (k := σ.od t) (by omega) (by omega) M (h.on1 ho) hT (hx.ask.2 t (by omega))
        rw [s_sub1] at hz
        refine hz.p ⟨rfl, ?_⟩
        have e1 : M.1 39 = (q_up M 34 15 (nI t)).1 39 := (q_up_ne _ _ _ (by decide)).symm
        have f : ∀ (v : Int32) (r : Nat), r ≠ 34 → r ≠ 39 → (q_up (q_up M 34 15 (nI t)) 39 (σ.od t) v).1 r = M.1 r := fun v r h1 h2 => (q_up_ne _ _ _ h2).trans (q_up_ne _ _ _ h1)
        have g : ∀ (v : Int32) (j : Nat), j ≠ 15 → (q_up (q_up M 34 15 (nI t)) 39 (σ.od t) v).1 34 j = M.1 34 j := fun v j hj => (congrFun (q_up_ne _ _ _ (by decide)) j).trans (q_up_o _ _ _ hj)
        refine ⟨⟨h.bank.shn (k := σ.od t) (v := -1) (g _ 0 (by decide)) (fun r h1 h2 h3 => f _ r (by omega) h3) (fun i => by rw [e1]; exact s_up39 (q_up M 34 15 (nI t)) (σ.od t) (-1) i), (g _ 7 (by decide)).trans h.mo, (g _ 10 (by decide)).trans h.a, (g _ 11 (by decide)).trans h.b, fun c hc => ?_, fun c hc => ?_, fun c hc => ?_, (g _ 13 (by decide)).trans h.on, (g _ 14 (by decide)).trans h.ov, fun _ => ⟨fun U hU => ?_, fun U hU => ?_, ⟨?_, fun i hi => ?_⟩, fun i hi => ?_, fun r hr s hs => ?_⟩⟩, fun r hr => f _ r (by omega) (by omega)⟩
        · rw [f _ 41 (by decide) (by decide)]; exact h.lo c hc
        · rw [f _ 42 (by decide) (by decide)]; exact h.hi c hc
        · rw [f _ 43 (by decide) (by decide)]; exact h.fw c hc
        · rw [f _ 47 (by decide) (by decide)]; exact hx.ft U hU
        · rw [f _ 48 (by decide) (by decide)]; exact hx.cn U hU
        · rw [q_up_ne _ _ _ (by decide), q_up_s]; rfl
        · have hi : i < t := hi
          rw [f _ 44 (by decide) (by decide)]; exact hx.ask.2 i (by omega)
        · have hi : i < t := hi
          rw [f _ 45 (by decide) (by decide)]; exact hx.rg i (by omega)
        · have hr : r ≤ t := hr
          rw [f _ 46 (by decide) (by decide)]; exact hx.W r (by omega) s hs
theorem pr_end {X : q_X} {σ : q_S} (hO : ok_S σ) : q_pr X 40 98 [] σ := by
  have hn := hO.bank.1
  cases ho : σ.on with
  | false => exact q_pr.same (-2) hO (fun d M h => c_end_off X (d + 6) M (h.on0 ho)) (fun d M h => m_end_off X (d + 6) M (h.on0 ho))
  | true =>
    have hZ := hO.sit ho
    by_cases hd : s_dn σ = 0
    · exact q_pr.same (-2) hO (fun d M h => c_end_no X (d + 6) hn hZ.lt hZ.t M (h.on1 ho) (h.sit ho).set (h.sit ho).A (h.sit ho).t ((h.dn hO ho).trans hd)) (fun d M h => m_end_no X (d + 6) hO.bank (hZ.ask hO) hZ.lt M h.bank (h.on1 ho) (h.sit ho).ft (h.sit ho).cn (h.sit ho).ask ((h.dn hO ho).trans hd))
    · refine ⟨nI (s_bst (fun s => nI (σ.W σ.t s)) 6), (q_S.mk σ.n σ.fa σ.sh σ.mo σ.a σ.b σ.lo σ.hi σ.fw false (σ.ov + 1) σ.wn σ.ft σ.t σ.od σ.rg σ.W), ⟨hO.bank, hO.mo, hO.ab, hO.fw, fun z => absurd (show false = true from z) (by decide)⟩, fun d M h => ?_, fun d M h => ?_⟩
      · have hx := h.sit ho
        have hz := c_end_ok X (d + 6) hn hZ.lt hZ.t M (h.on1 ho) hx.set hx.A hx.t (fun z => hd ((h.dn hO ho).symm.trans z))
        rw [s_bst_c (i := 6) (by decide) (hx.W σ.t (Nat.le_refl _))] at hz
        have f : ∀ r, r ≠ 23 → (q_up (q_up M 23 0 0) 23 1 (M.1 23 1 + 1)).1 r = M.1 r := fun r h1 => (q_up_ne _ _ _ h1).trans (q_up_ne _ _ _ h1)
        refine hz.p ⟨rfl, ⟨h.bank.keepn hn (fun r hr => f r (by omega)), fun p h1 h2 => ?_, ?_, ?_, ?_, fun c hc => ?_, fun c hc => ?_, fun c hc => ?_, ?_, ?_, fun z => absurd (show false = true from z) (by decide)⟩, fun r hr => f r (by omega)⟩
        · rw [f (3 + p) (by omega)]; exact h.new p h1 h2
        · rw [f 13 (by decide)]; exact h.mo
        · rw [f 13 (by decide)]; exact h.a
        · rw [f 13 (by decide)]; exact h.b
        · rw [f 14 (by decide)]; exact h.lo c hc
        · rw [f 15 (by decide)]; exact h.hi c hc
        · rw [f 16 (by decide)]; exact h.fw c hc
        · rw [q_up_o _ _ _ (by decide), q_up_s]; rfl
        · rw [q_up_s, h.ov]; rfl
      · have hx := h.sit ho
        have hz := m_end_ok X (d + 6) hO.bank (hZ.ask hO) hZ.lt M h.bank (h.on1 ho) hx.ft hx.cn hx.ask (fun z => hd ((h.dn hO ho).symm.trans z))
        rw [s_bst_c (f := s_row M σ.t) (i := 6) (by decide) (hx.W σ.t (Nat.le_refl _))] at hz
        have f : ∀ r, r ≠ 34 → (q_up (q_up (q_up M 34 13 0) 34 15 0) 34 14 (M.1 34 14 + 1)).1 r = M.1 r := fun r h1 => (q_up_ne _ _ _ h1).trans ((q_up_ne _ _ _ h1).trans (q_up_ne _ _ _ h1))
        have g : ∀ j, j ≠ 13 → j ≠ 14 → j ≠ 15 → (q_up (q_up (q_up M 34 13 0) 34 15 0) 34 14 (M.1 34 14 + 1)).1 34 j = M.1 34 j := fun j h1 h2 h3 => (q_up_o _ _ _ h2).trans ((q_up_o _ _ _ h3).trans (q_up_o _ _ _ h1))
        refine hz.p ⟨rfl, ⟨h.bank.keep (g 0 (by decide) (by decide) (by decide)) (fun r h1 h2 => f r (by omega)), (g 7 (by decide) (by decide) (by decide)).trans h.mo, (g 10 (by decide) (by decide) (by decide)).trans h.a, (g 11 (by decide) (by decide) (by decide)).trans h.b, fun c hc => ?_, fun c hc => ?_, fun c hc => ?_, ?_, ?_, fun z => absurd (show false = true from z) (by decide)⟩, fun r hr => f r (by omega)⟩
        · rw [f 41 (by decide)]; exact h.lo c hc
        · rw [f 42 (by decide)]; exact h.hi c hc
        · rw [f 43 (by decide)]; exact h.fw c hc
        · rw [q_up_o _ _ _ (by decide), q_up_o _ _ _ (by decide), q_up_s]; rfl
        · rw [q_up_s, h.ov]; rfl
theorem pr_quit {X : q_X} {σ : q_S} (hO : ok_S σ) : q_pr X 41 99 [] σ := by
  have hn := hO.bank.1
  cases ho : σ.on with
  | false => exact q_pr.same (-2) hO (fun d M h => c_quit_off X (d + 8) M (h.on0 ho)) (fun d M h => m_quit_off X (d + 10) M (h.on0 ho))
  | true =>
    have hZ := hO.sit ho
    have hp := s_pw hn
    refine ⟨nI σ.t, (q_S.mk σ.n σ.fa (s_un σ.od σ.t σ.sh) σ.mo σ.a σ.b σ.lo σ.hi σ.fw false σ.ov σ.wn σ.ft σ.t σ.od σ.rg σ.W), ⟨hO.bank, hO.mo, hO.ab, hO.fw, fun z => absurd (show false = true from z) (by decide)⟩, fun d M h => ?_, fun d M h => ?_⟩
    · have hx := h.sit ho
      refine (c_quit_on X (d + 8) hn (hZ.ask hO) hZ.od hZ.di (fun i hi => Nat.lt_of_lt_of_le (s_as_lt hZ i hi) hp) M h.bank (h.on1 ho) hx.A hx.t hx.od).mono (fun r M' z => ?_)
      obtain ⟨z1, z2, z3, z4, z5⟩ := z
      have f : ∀ r, 13 ≤ r → r < 23 → M'.1 r = M.1 r := fun r h1 h2 => z2 r (by omega) (by omega)
      refine ⟨z1, ⟨z3, fun p h1 h2 => ?_, ?_, ?_, ?_, fun c hc => ?_, fun c hc => ?_, fun c hc => ?_, z4, z5.trans h.ov, fun z => absurd (show false = true from z) (by decide)⟩, fun r hr => z2 r (by omega) (by omega)⟩
      · have h1 : σ.n ≤ p := h1
        rw [z2 (3 + p) (by omega) (by omega)]; exact h.new p h1 h2
      · rw [f 13 (by decide) (by decide)]; exact h.mo
      · rw [f 13 (by decide) (by decide)]; exact h.a
      · rw [f 13 (by decide) (by decide)]; exact h.b
      · rw [f 14 (by decide) (by decide)]; exact h.lo c hc
      · rw [f 15 (by decide) (by decide)]; exact h.hi c hc
      · rw [f 16 (by decide) (by decide)]; exact h.fw c hc
    · have hx := h.sit ho
      refine (m_quit_on X (d + 10) (hZ.ask hO) M h.bank (h.on1 ho) hx.ask).mono (fun r M' z => ?_)
      obtain ⟨z1, z2, z3, z4, z5⟩ := z
      refine ⟨z1, ⟨z4, (z3 7 (by decide) (by decide)).trans h.mo, (z3 10 (by decide) (by decide)).trans h.a, (z3 11 (by decide) (by decide)).trans h.b, fun c hc => ?_, fun c hc => ?_, fun c hc => ?_, z5, (z3 14 (by decide) (by decide)).trans h.ov, fun z => absurd (show false = true from z) (by decide)⟩, fun r hr => z2 r (by omega) (by omega)⟩
      · rw [z2 41 (by decide) (by decide)]; exact h.lo c hc
      · rw [z2 42 (by decide) (by decide)]; exact h.hi c hc
      · rw [z2 43 (by decide) (by decide)]; exact h.fw c hc
