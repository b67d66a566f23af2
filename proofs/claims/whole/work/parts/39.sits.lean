/-! Pairs: done, now, asked, may, gain, count, next, reach. -/
theorem s_as_lt {σ : q_S} (hZ : ok_Z σ) : ∀ (i : Nat), i ≤ σ.t → s_as σ.od i < 2 ^ σ.n
  | 0, _ => Nat.two_pow_pos _
  | i + 1, h => s_orlt (s_as_lt hZ i (by omega)) (hZ.od i (by omega))
theorem s_as_pc {σ : q_S} (hZ : ok_Z σ) : ∀ (i : Nat), i ≤ σ.t → s_pc σ.n (s_as σ.od i) = i
  | 0, _ => s_ct_0.mpr (fun i _ => Nat.zero_testBit i)
  | i + 1, h => (s_pc_s (hZ.od i (by omega)) (hZ.di i (by omega))).trans (by rw [s_as_pc hZ i (by omega)])
theorem ok_Z.lt {σ : q_S} (hZ : ok_Z σ) : s_as σ.od σ.t < 2 ^ σ.n := s_as_lt hZ _ (Nat.le_refl _)
theorem ok_Z.ask {σ : q_S} (hO : ok_S σ) (hZ : ok_Z σ) : ok_ask σ.t σ.od (s_as σ.od) := ⟨hZ.t, rfl, fun i hi => ⟨Nat.lt_of_lt_of_le (hZ.od i hi) hO.bank.1, rfl⟩⟩
theorem ok_Z.W12 {σ : q_S} (hZ : ok_Z σ) : ∀ s, s < 6 → 1 ≤ σ.W σ.t s ∧ σ.W σ.t s ≤ 12288 := fun s hs => ⟨(hZ.W σ.t (Nat.le_refl _) s hs).1, Nat.le_trans (hZ.W σ.t (Nat.le_refl _) s hs).2 (n_p4 hZ.t)⟩
theorem s_done_c {f s : Bool} {K K' : Nat} (h : K = 0 ↔ K' = 0) : s_done f s K = s_done f s K' := by
  unfold s_done
  by_cases e : K = 0
  · rw [if_pos e, if_pos (h.mp e)]
  · rw [if_neg e, if_neg (fun z => e (h.mpr z))]
theorem s_done_3 (f s : Bool) (K : Nat) : s_done f s K ≤ 0 ↔ s_done f s K = 0 := by
  unfold s_done
  cases f <;> cases s <;> by_cases e : K = 0 <;> simp [e] <;> decide
/-- may be asked now -/
def s_my (σ : q_S) (q : Nat) : Bool := s_may σ.n σ.fa (s_can σ.ft σ.n) (s_as σ.od σ.t) q
/-- done, now -/
def s_dn (σ : q_S) : Int32 := s_done (σ.ft (s_as σ.od σ.t)) (n_sure (σ.W σ.t) σ.a σ.b) (s_ct σ.n (s_my σ))
theorem x_S.dn {σ : q_S} {M : q_M} (hO : ok_S σ) (h : x_S σ M) (ho : σ.on = true) : s_done (σ.ft (s_as σ.od σ.t)) (s_sureX (M.1 (27 + σ.t)) (M.1 13 1) (M.1 13 2)) (s_xm σ.n σ.fa σ.ft (s_as σ.od σ.t)) = s_dn σ := by
  have hZ := hO.sit ho
  unfold s_dn
  rw [h.a, h.b, s_sureX_N ((h.sit ho).W σ.t (Nat.le_refl _)) (fun s hs => (hZ.W12 s hs).2) hO.ab.1 hO.ab.2]
  exact s_done_c (s_xm_0 hO.bank hZ.lt (hZ.og _ (Nat.le_refl _)))
theorem m_S.dn {σ : q_S} {M : q_M} (hO : ok_S σ) (h : m_S σ M) (ho : σ.on = true) : s_done (σ.ft (s_as σ.od σ.t)) (s_sureM (s_row M σ.t) (M.1 34 10) (M.1 34 11)) (s_ct σ.n (s_may σ.n σ.fa (s_can σ.ft σ.n) (s_as σ.od σ.t))) = s_dn σ := by
  have hZ := hO.sit ho
  unfold s_dn
  rw [h.a, h.b, s_sureM_N (f := s_row M σ.t) ((h.sit ho).W σ.t (Nat.le_refl _)) (fun s hs => (hZ.W12 s hs).2) hO.ab.1 hO.ab.2]
  rfl
theorem s_xb {σ : q_S} (hO : ok_S σ) (ho : σ.on = true) {q : Nat} (hq : q < σ.n) : (s_xm σ.n σ.fa σ.ft (s_as σ.od σ.t)).testBit q = s_my σ q := s_xm_b hO.bank (hO.sit ho).lt ((hO.sit ho).og _ (Nat.le_refl _)) hq
theorem pr_done {X : q_X} {σ : q_S} (hO : ok_S σ) : q_pr X 44 102 [] σ := by
  cases ho : σ.on with
  | false => exact q_pr.same (-2) hO (fun d M h => c_done_off X (d + 6) M (h.on0 ho)) (fun d M h => m_done_off X (d + 6) M (h.on0 ho))
  | true =>
    have hZ := hO.sit ho
    refine q_pr.same (s_dn σ) hO (fun d M h => ?_) (fun d M h => ?_)
    · have hx := h.sit ho
      have hz := c_done_on X (d + 6) hO.bank.1 hZ.lt hZ.t M (h.on1 ho) hx.set hx.A hx.t
      rw [h.dn hO ho] at hz
      exact hz
    · have hx := h.sit ho
      have hz := m_done_on X (d + 6) hO.bank (hZ.ask hO) hZ.lt M h.bank (h.on1 ho) hx.ft hx.cn hx.ask
      rw [h.dn hO ho] at hz
      exact hz
theorem s_r3_t (ok : Bool) (v w : Int32) : s_r3 ok true v = s_r3 ok true w := by
  unfold s_r3
  rw [if_pos rfl, if_pos rfl]
theorem pr_now {X : q_X} {σ : q_S} (hO : ok_S σ) (c : Int32) : q_pr X 45 103 [.int c] σ := by
  cases ho : σ.on with
  | false =>
    have hno : ∀ {P : Prop}, σ.on = true → P := fun h => absurd h (by rw [ho]; decide)
    refine q_pr.same (s_r3 (s_in c 0 5) true 0) hO (fun d M h => ?_) (fun d M h => ?_)
    · have hz := c_now X (d + 8) (t := 0) (by decide) c M h.on (fun z => hno z)
      rw [ho, Bool.not_false, s_r3_t _ _ 0] at hz
      exact hz
    · have hz := m_now X (d + 10) (t := 0) (by decide) c M h.on (fun z => hno z)
      rw [ho, Bool.not_false, s_r3_t _ _ 0] at hz
      exact hz
  | true =>
    have hZ := hO.sit ho
    have hv : ∀ w : Int32, (s_in c 0 5 = true → w = nI (σ.W σ.t c.toNatClampNeg)) → s_r3 (s_in c 0 5) (!true) w = s_r3 (s_in c 0 5) false (nI (σ.W σ.t c.toNatClampNeg)) := by
      intro w hw
      cases hc : s_in c 0 5 with
      | false => rfl
      | true => rw [hw hc]; rfl
    have hl : s_in c 0 5 = true → c.toNatClampNeg < 6 := fun hc => by
      have := (s_cl (a := 0) (b := 5) (by decide) (by decide) hc).2.2
      omega
    refine q_pr.same (s_r3 (s_in c 0 5) false (nI (σ.W σ.t c.toNatClampNeg))) hO (fun d M h => ?_) (fun d M h => ?_)
    · have hx := h.sit ho
      have hz := c_now X (d + 8) hZ.t c M h.on (fun _ => hx.t)
      rw [ho, hv _ (fun hc => hx.W σ.t (Nat.le_refl _) _ (hl hc))] at hz
      exact hz
    · have hx := h.sit ho
      have hz := m_now X (d + 10) hZ.t c M h.on (fun _ => hx.ask.1)
      rw [ho, hv _ (fun hc => hx.W σ.t (Nat.le_refl _) _ (hl hc))] at hz
      exact hz
theorem pr_asked {X : q_X} {σ : q_S} (hO : ok_S σ) (i x : Int32) : q_pr X 46 104 [.int i, .int x] σ := by
  cases ho : σ.on with
  | false => exact q_pr.same _ hO (fun d M h => c_asked_off X (d + 9) i x M (h.on0 ho)) (fun d M h => m_asked_off X (d + 10) i x M (h.on0 ho))
  | true =>
    have hZ := hO.sit ho
    exact q_pr.same _ hO (fun d M h => c_asked_on X (d + 9) hZ.t i x M (h.on1 ho) (h.sit ho).t (h.sit ho).od (h.sit ho).rg) (fun d M h => m_asked_on X (d + 10) hZ.t i x M (h.on1 ho) (h.sit ho).ask (h.sit ho).rg)
theorem pr_may {X : q_X} {σ : q_S} (hO : ok_S σ) (q : Int32) : q_pr X 42 100 [.int q] σ := by
  have hn := hO.bank.1
  cases ho : σ.on with
  | false =>
    refine q_pr.same (if s_has (nI σ.n) q = true then -2 else -1) hO (fun d M h => c_may_off X (d + 7) q M h.bank.1 (h.on0 ho)) (fun d M h => ?_)
    have hz := m_may_off X (d + 8) q M h.bank.1 (h.on0 ho)
    rw [s_has_in hn] at hz
    exact hz
  | true =>
    have hZ := hO.sit ho
    refine q_pr.same (if s_has (nI σ.n) q = true then q_b (s_my σ q.toNatClampNeg) else -1) hO (fun d M h => ?_) (fun d M h => ?_)
    · have hx := h.sit ho
      have hz := c_may_on X (d + 7) hn hZ.lt hZ.t q M h.bank.1 (h.on1 ho) hx.set hx.A hx.t
      cases hc : s_has (nI σ.n) q with
      | false => rw [hc] at hz; exact hz
      | true =>
        rw [hc] at hz
        obtain ⟨k, hk, rfl⟩ := s_has_inv hn hc
        rw [nI_clamp (by omega), s_xb hO ho hk] at hz
        rw [nI_clamp (by omega)]
        exact hz
    · have hx := h.sit ho
      have hz := m_may_on X (d + 8) hO.bank (hZ.ask hO) hZ.lt q M h.bank (h.on1 ho) hx.ft hx.cn hx.ask
      rw [s_has_in hn] at hz
      exact hz
theorem x_S.gn {σ : q_S} {M : q_M} (hO : ok_S σ) (h : x_S σ M) (ho : σ.on = true) : x_gain σ.n σ.t (n_top (σ.W σ.t) σ.fa) (n_bot (σ.W σ.t) σ.fa) M := n_xgain hO.bank h.bank (hO.sit ho).W12 ((h.sit ho).W σ.t (Nat.le_refl _))
theorem m_S.gn {σ : q_S} {M : q_M} (hO : ok_S σ) (h : m_S σ M) (ho : σ.on = true) : m_gain σ.n σ.t (n_top (σ.W σ.t) σ.fa) (n_bot (σ.W σ.t) σ.fa) M := n_mgain hO.bank h.bank (hO.sit ho).W12 ((h.sit ho).W σ.t (Nat.le_refl _))
theorem m_S.keep60 {σ : q_S} {M M' : q_M} (hO : ok_S σ) (ho : σ.on = true) (h : m_S σ M) (h1 : ∀ r, r ≠ 46 → M'.1 r = M.1 r) (h2 : ∀ j, j < 60 → M'.1 46 j = M.1 46 j) : m_S σ M' ∧ q_fm M M' := ⟨h.keepw hO (fun r _ hr => h1 r hr) (fun _ j hj => h2 j (by have := (hO.sit ho).t; omega)), fun r hr => h1 r (by omega)⟩
theorem pr_gain {X : q_X} {σ : q_S} (hO : ok_S σ) (q p : Int32) : q_pr X 43 101 [.int q, .int p] σ := by
  have hn := hO.bank.1
  cases ho : σ.on with
  | false =>
    refine q_pr.same (if (s_has (nI σ.n) q && s_has (nI σ.n) p) = true then -3 else -2) hO (fun d M h => c_gain_off X (d + 7) q p M h.bank.1 (h.on0 ho)) (fun d M h => ?_)
    have hz := m_gain_off X (d + 8) q p M h.bank.1 (h.on0 ho)
    rw [s_has_in hn, s_has_in hn] at hz
    exact hz
  | true =>
    have hZ := hO.sit ho
    refine ⟨_, σ, hO, fun d M h => (c_gain_on X (d + 7) hn hZ.t q p M h.bank.1 (h.on1 ho) (h.sit ho).t (h.gn hO ho)).p ⟨rfl, h, q_fx.rfl⟩, fun d M h => ?_⟩
    have hz := m_gain_on X (d + 8) hn hZ.t (n_fins hO.bank hZ.W12) q p M h.bank.1 (h.on1 ho) (h.sit ho).ask.1 (h.gn hO ho)
    rw [s_has_in hn, s_has_in hn] at hz
    refine hz.mono (fun r M' z => ?_)
    obtain ⟨z1, z2, z3⟩ := z
    exact ⟨z1, h.keep60 hO ho z2 z3⟩
theorem s_l2i {n : Nat} (h : n < 2 ^ 31) : (lN n).toInt32 = nI n := Int32.toInt_inj.mp (by
  rw [Int64.toInt_toInt32, lN_toInt (by omega), nI_toInt h]
  refine Int.bmod_eq_of_le ?_ ?_ <;> omega)
theorem pr_count {X : q_X} {σ : q_S} (hO : ok_S σ) (x : Int32) : q_pr X 48 109 [.int x] σ := by
  have hn := hO.bank.1
  cases ho : σ.on with
  | false =>
    refine q_pr.same (s_c9 x (nI σ.n) (nI σ.mo) 0 0 σ.ov 0 (nI σ.a) (nI σ.b) 0) hO (fun d M h => ?_) (fun d M h => ?_)
    · have hz := c_count_off X (d + 7) x M h.bank.1 (h.on0 ho)
      rw [h.mo, h.ov, h.a, h.b] at hz
      exact hz
    · have hz := m_count_off X (d + 7) x M h.bank.1 (h.on0 ho)
      rw [h.mo, h.ov, h.a, h.b] at hz
      exact hz
  | true =>
    have hZ := hO.sit ho
    have hb : n_sum (σ.W σ.t) ≤ 6 * 12288 := n_sum_le (fun s hs => (hZ.W12 s hs).2)
    refine q_pr.same (s_c9 x (nI σ.n) (nI σ.mo) 1 (nI σ.t) σ.ov (nI (s_ct σ.n (s_my σ))) (nI σ.a) (nI σ.b) (nI (n_sum (σ.W σ.t)))) hO (fun d M h => ?_) (fun d M h => ?_)
    · have hx := h.sit ho
      have hz := c_count_on X (d + 7) hn hZ.lt hZ.t x M h.bank.1 (h.on1 ho) hx.set hx.A hx.t
      rw [h.mo, h.ov, h.a, h.b, s_bcN hn (s_xm_lt _ _ _ _), s_xm_ct hO.bank hZ.lt (hZ.og _ (Nat.le_refl _)), s_sum_N (hx.W σ.t (Nat.le_refl _))] at hz
      exact hz
    · have hx := h.sit ho
      have hz := m_count_on X (d + 7) hO.bank (hZ.ask hO) hZ.lt x M h.bank (h.on1 ho) hx.ft hx.cn hx.ask
      rw [h.mo, h.ov, h.a, h.b, s_sumL_N (f := s_row M σ.t) (hx.W σ.t (Nat.le_refl _)) (fun s hs => by have := (hZ.W12 s hs).2; omega), s_l2i (by omega)] at hz
      exact hz
theorem pr_next {X : q_X} {σ : q_S} (hO : ok_S σ) : q_pr X 37 95 [] σ := by
  have hn := hO.bank.1
  cases ho : σ.on with
  | false => exact q_pr.same (-2) hO (fun d M h => c_next_off X (d + 6) M (h.on0 ho)) (fun d M h => m_next_off X (d + 6) M (h.on0 ho))
  | true =>
    have hZ := hO.sit ho
    refine ⟨(if s_dn σ = 0 then s_ov (s_nx (s_xm σ.n σ.fa σ.ft (s_as σ.od σ.t)) (n_top (σ.W σ.t) σ.fa) (n_bot (σ.W σ.t) σ.fa) σ.n) else -9), σ, hO, fun d M h => ?_, fun d M h => ?_⟩
    · have hx := h.sit ho
      have hz := c_next_on X (d + 6) hn hZ.lt hZ.t M (h.on1 ho) hx.set hx.A hx.t h.bank.1 (h.gn hO ho)
      rw [h.dn hO ho] at hz
      exact hz.p ⟨rfl, h, q_fx.rfl⟩
    · have hx := h.sit ho
      have hd := h.dn hO ho
      by_cases hc : s_dn σ = 0
      · have hz := m_next_on X (d + 6) hO.bank (hZ.ask hO) hZ.lt (K := s_xm σ.n σ.fa σ.ft (s_as σ.od σ.t)) (fun q hq => s_xb hO ho hq) (n_fins hO.bank hZ.W12) M h.bank (h.on1 ho) hx.ft hx.cn hx.ask (h.gn hO ho) ((s_done_3 _ _ _).mpr (hd.trans hc))
        refine hz.mono (fun r M' z => ?_)
        obtain ⟨z1, z2, z3⟩ := z
        rw [if_pos hc]
        exact ⟨z1, h.keep60 hO ho z2 z3⟩
      · have hz := m_next_done X (d + 6) hO.bank (hZ.ask hO) hZ.lt M h.bank (h.on1 ho) hx.ft hx.cn hx.ask (fun z => hc (hd.symm.trans ((s_done_3 _ _ _).mp z)))
        rw [if_neg hc]
        exact hz.p ⟨rfl, h, q_fm.rfl⟩
theorem pr_reach {X : q_X} {σ : q_S} (hO : ok_S σ) (x : Int32) : q_pr X 47 108 [.int x] σ := by
  have hn := hO.bank.1
  cases ho : σ.on with
  | false => exact q_pr.same (if s_in x 0 3 = true then -2 else -1) hO (fun d M h => c_reach_off X (d + 1) x M (h.on0 ho)) (fun d M h => m_reach_off X (d + 5) x M (h.on0 ho))
  | true =>
    have hZ := hO.sit ho
    refine ⟨(if s_in x 0 3 = true then q_b (s_rch σ.n σ.fa σ.ft (nI σ.a) (nI σ.b) x.toNatClampNeg σ.t (s_as σ.od σ.t) (σ.W σ.t)) else -1), σ, hO, fun d M h => ?_, fun d M h => ?_⟩
    · have hx := h.sit ho
      refine (c_reach_on X (d + 1) hO.bank hZ.lt hZ.t x M h.bank (h.on1 ho) hx.set hx.A hx.t (hx.W σ.t (Nat.le_refl _)) h.a h.b).mono (fun r M' z => ?_)
      obtain ⟨z1, z2⟩ := z
      have ht := hZ.t
      refine ⟨z1, ⟨h.bank.keepn hn (fun r hr => z2 r (by omega)), fun q h1 h2 => ?_, ?_, ?_, ?_, fun c hc => ?_, fun c hc => ?_, fun c hc => ?_, ?_, ?_, fun _ => ⟨hx.set.keep (fun r h1 h2 => z2 r (by omega)), ?_, ?_, fun i hi => ?_, fun i hi => ?_, fun r hr s hs => ?_⟩⟩, fun r hr => z2 r (by omega)⟩
      · rw [z2 (3 + q) (by omega)]; exact h.new q h1 h2
      · rw [z2 13 (by omega)]; exact h.mo
      · rw [z2 13 (by omega)]; exact h.a
      · rw [z2 13 (by omega)]; exact h.b
      · rw [z2 14 (by omega)]; exact h.lo c hc
      · rw [z2 15 (by omega)]; exact h.hi c hc
      · rw [z2 16 (by omega)]; exact h.fw c hc
      · rw [z2 23 (by omega)]; exact h.on
      · rw [z2 23 (by omega)]; exact h.ov
      · rw [z2 23 (by omega)]; exact hx.t
      · rw [z2 23 (by omega)]; exact hx.A
      · rw [z2 24 (by omega)]; exact hx.od i hi
      · rw [z2 25 (by omega)]; exact hx.rg i hi
      · rw [z2 (27 + r) (by omega)]; exact hx.W r hr s hs
    · have hx := h.sit ho
      have hm : ∀ k, s_rch σ.n σ.fa σ.ft (nI σ.a) (nI σ.b) k σ.t (s_as σ.od σ.t) (σ.W σ.t) = s_mr σ.n σ.fa (s_can σ.ft σ.n) (nI σ.a) (nI σ.b) k (s_as σ.od σ.t) (σ.W σ.t) := fun k => s_rch_mr hO.bank hZ.fit hO.ab.1 hO.ab.2 k σ.t _ _ hZ.t hZ.lt (s_as_pc hZ _ (Nat.le_refl _)) (hZ.og _ (Nat.le_refl _)) (hZ.W σ.t (Nat.le_refl _))
      have fin : ∀ (k : Nat) (r : Option Value) (M' : q_M), k < 4 → r = some (.int (q_b (s_mr σ.n σ.fa (s_can σ.ft σ.n) (nI σ.a) (nI σ.b) k (s_as σ.od σ.t) (σ.W σ.t)))) ∧ (∀ r, r ≠ 46 → M'.1 r = M.1 r) ∧ (∀ j, j < 6 * σ.t + 6 → M'.1 46 j = M.1 46 j) → r = some (.int (if s_in (nI k) 0 3 = true then q_b (s_rch σ.n σ.fa σ.ft (nI σ.a) (nI σ.b) (nI k).toNatClampNeg σ.t (s_as σ.od σ.t) (σ.W σ.t)) else -1)) ∧ m_S σ M' ∧ q_fm M M' := by
        intro k r M' hk z
        obtain ⟨z1, z2, z3⟩ := z
        have hin : s_in (nI k) 0 3 = true := s_in_ok (a := k) (b := 0) (c := 3) (by omega) (by omega) (by decide)
        refine ⟨?_, h.keepw hO (fun r _ hr => z2 r hr) (fun _ j hj => z3 j hj), fun r hr => z2 r (by omega)⟩
        rw [z1, hin, if_pos rfl, nI_clamp (by omega), hm]
      cases hc : s_in x 0 3 with
      | false => exact (m_reach_no X (d + 5) x M hc).p ⟨rfl, h, q_fm.rfl⟩
      | true =>
        rw [← hc]
        obtain ⟨k, _, hk, rfl⟩ := s_in_inv (a := 0) (b := 3) (by decide) (by decide) hc
        rcases (show k = 0 ∨ k = 1 ∨ k = 2 ∨ k = 3 by omega) with e | e | e | e <;> subst e
        · exact (m_reach_0 X (d + 5) hO.bank (hZ.ask hO) hZ.lt M h.bank (h.on1 ho) hx.ft hx.cn hx.ask (hx.W σ.t (Nat.le_refl _)) h.a h.b).mono (fun r M' z => fin 0 r M' (by decide) z)
        · exact (m_reach_1 X (d + 5) hO.bank (hZ.ask hO) hZ.lt M h.bank (h.on1 ho) hx.ft hx.cn hx.ask (hx.W σ.t (Nat.le_refl _)) h.a h.b).mono (fun r M' z => fin 1 r M' (by decide) z)
        · exact (m_reach_2 X (d + 5) hO.bank (hZ.ask hO) hZ.lt M h.bank (h.on1 ho) hx.ft hx.cn hx.ask (hx.W σ.t (Nat.le_refl _)) h.a h.b).mono (fun r M' z => fin 2 r M' (by decide) z)
        · exact (m_reach_3 X (d + 5) hO.bank (hZ.ask hO) hZ.lt M h.bank (h.on1 ho) hx.ft hx.cn hx.ask (hx.W σ.t (Nat.le_refl _)) h.a h.b).mono (fun r M' z => fin 3 r M' (by decide) z)
