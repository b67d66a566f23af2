/-! One state for both sides; a pair of calls; the plain setters. -/
def q_S : Type := (Nat) × (Nat → Nat → Nat) × (Nat → Int32) × (Nat) × (Nat) × (Nat) × (Nat → Int32) × (Nat → Int32) × (Nat → Nat) × (Bool) × (Int32) × (Nat → Bool) × (Nat → Bool) × (Nat) × (Nat → Nat) × (Nat → Bool) × (Nat → Nat → Nat)
def q_S.mk (n : Nat) (fa : Nat → Nat → Nat) (sh : Nat → Int32) (mo : Nat) (a : Nat) (b : Nat) (lo : Nat → Int32) (hi : Nat → Int32) (fw : Nat → Nat) (on : Bool) (ov : Int32) (wn : Nat → Bool) (ft : Nat → Bool) (t : Nat) (od : Nat → Nat) (rg : Nat → Bool) (W : Nat → Nat → Nat) : q_S := (n, fa, sh, mo, a, b, lo, hi, fw, on, ov, wn, ft, t, od, rg, W)
def q_S.n (σ : q_S) : Nat := σ.1
def q_S.fa (σ : q_S) : Nat → Nat → Nat := σ.2.1
def q_S.sh (σ : q_S) : Nat → Int32 := σ.2.2.1
def q_S.mo (σ : q_S) : Nat := σ.2.2.2.1
def q_S.a (σ : q_S) : Nat := σ.2.2.2.2.1
def q_S.b (σ : q_S) : Nat := σ.2.2.2.2.2.1
def q_S.lo (σ : q_S) : Nat → Int32 := σ.2.2.2.2.2.2.1
def q_S.hi (σ : q_S) : Nat → Int32 := σ.2.2.2.2.2.2.2.1
def q_S.fw (σ : q_S) : Nat → Nat := σ.2.2.2.2.2.2.2.2.1
def q_S.on (σ : q_S) : Bool := σ.2.2.2.2.2.2.2.2.2.1
def q_S.ov (σ : q_S) : Int32 := σ.2.2.2.2.2.2.2.2.2.2.1
def q_S.wn (σ : q_S) : Nat → Bool := σ.2.2.2.2.2.2.2.2.2.2.2.1
def q_S.ft (σ : q_S) : Nat → Bool := σ.2.2.2.2.2.2.2.2.2.2.2.2.1
def q_S.t (σ : q_S) : Nat := σ.2.2.2.2.2.2.2.2.2.2.2.2.2.1
def q_S.od (σ : q_S) : Nat → Nat := σ.2.2.2.2.2.2.2.2.2.2.2.2.2.2.1
def q_S.rg (σ : q_S) : Nat → Bool := σ.2.2.2.2.2.2.2.2.2.2.2.2.2.2.2.1
def q_S.W (σ : q_S) : Nat → Nat → Nat := σ.2.2.2.2.2.2.2.2.2.2.2.2.2.2.2.2
/-- the set of what was asked -/
def s_as (od : Nat → Nat) : Nat → Nat
  | 0 => 0
  | i + 1 => s_as od i ||| 2 ^ od i
def ok_Z (σ : q_S) : Prop := (σ.t ≤ 6) ∧ (∀ i, i < σ.t → σ.od i < σ.n) ∧ (∀ i, i < σ.t → (s_as σ.od i).testBit (σ.od i) = false) ∧ (∀ i, i ≤ σ.t → s_og σ.n σ.fa (s_as σ.od i)) ∧ (∀ U, U < 2 ^ σ.n → σ.ft U = true → s_pc σ.n U ≤ 6) ∧ (∀ r, r ≤ σ.t → ∀ s, s < 6 → 1 ≤ σ.W r s ∧ σ.W r s ≤ 3 * 4 ^ r)
theorem ok_Z.t {σ : q_S} (h : ok_Z σ) : σ.t ≤ 6 := h.1
theorem ok_Z.od {σ : q_S} (h : ok_Z σ) : ∀ i, i < σ.t → σ.od i < σ.n := h.2.1
theorem ok_Z.di {σ : q_S} (h : ok_Z σ) : ∀ i, i < σ.t → (s_as σ.od i).testBit (σ.od i) = false := h.2.2.1
theorem ok_Z.og {σ : q_S} (h : ok_Z σ) : ∀ i, i ≤ σ.t → s_og σ.n σ.fa (s_as σ.od i) := h.2.2.2.1
theorem ok_Z.fit {σ : q_S} (h : ok_Z σ) : ∀ U, U < 2 ^ σ.n → σ.ft U = true → s_pc σ.n U ≤ 6 := h.2.2.2.2.1
theorem ok_Z.W {σ : q_S} (h : ok_Z σ) : ∀ r, r ≤ σ.t → ∀ s, s < 6 → 1 ≤ σ.W r s ∧ σ.W r s ≤ 3 * 4 ^ r := h.2.2.2.2.2
def ok_S (σ : q_S) : Prop := (ok_bank σ.n σ.fa) ∧ (1 ≤ σ.mo ∧ σ.mo ≤ 6) ∧ (σ.a ≤ 20 ∧ σ.b ≤ 20) ∧ (∀ s, s < 6 → 1 ≤ σ.fw s ∧ σ.fw s ≤ 3) ∧ (σ.on = true → ok_Z σ)
theorem ok_S.bank {σ : q_S} (h : ok_S σ) : ok_bank σ.n σ.fa := h.1
theorem ok_S.mo {σ : q_S} (h : ok_S σ) : 1 ≤ σ.mo ∧ σ.mo ≤ 6 := h.2.1
theorem ok_S.ab {σ : q_S} (h : ok_S σ) : σ.a ≤ 20 ∧ σ.b ≤ 20 := h.2.2.1
theorem ok_S.fw {σ : q_S} (h : ok_S σ) : ∀ s, s < 6 → 1 ≤ σ.fw s ∧ σ.fw s ≤ 3 := h.2.2.2.1
theorem ok_S.sit {σ : q_S} (h : ok_S σ) : σ.on = true → ok_Z σ := h.2.2.2.2
def x_Z (σ : q_S) (M : q_M) : Prop := (x_set σ.n σ.fa σ.wn σ.ft M) ∧ (M.1 23 2 = nI σ.t) ∧ (M.1 23 3 = nI (s_as σ.od σ.t)) ∧ (∀ i, i < σ.t → M.1 24 i = nI (σ.od i)) ∧ (∀ i, i < σ.t → M.1 25 i = q_b (σ.rg i)) ∧ (∀ r, r ≤ σ.t → ∀ s, s < 6 → M.1 (27 + r) s = nI (σ.W r s))
theorem x_Z.set {σ : q_S} {M : q_M} (h : x_Z σ M) : x_set σ.n σ.fa σ.wn σ.ft M := h.1
theorem x_Z.t {σ : q_S} {M : q_M} (h : x_Z σ M) : M.1 23 2 = nI σ.t := h.2.1
theorem x_Z.A {σ : q_S} {M : q_M} (h : x_Z σ M) : M.1 23 3 = nI (s_as σ.od σ.t) := h.2.2.1
theorem x_Z.od {σ : q_S} {M : q_M} (h : x_Z σ M) : ∀ i, i < σ.t → M.1 24 i = nI (σ.od i) := h.2.2.2.1
theorem x_Z.rg {σ : q_S} {M : q_M} (h : x_Z σ M) : ∀ i, i < σ.t → M.1 25 i = q_b (σ.rg i) := h.2.2.2.2.1
theorem x_Z.W {σ : q_S} {M : q_M} (h : x_Z σ M) : ∀ r, r ≤ σ.t → ∀ s, s < 6 → M.1 (27 + r) s = nI (σ.W r s) := h.2.2.2.2.2
def x_S (σ : q_S) (M : q_M) : Prop := (x_bank σ.n σ.fa σ.sh M) ∧ (∀ q, σ.n ≤ q → q < 10 → M.1 (3 + q) 4 = 0) ∧ (M.1 13 0 = nI σ.mo) ∧ (M.1 13 1 = nI σ.a) ∧ (M.1 13 2 = nI σ.b) ∧ (∀ c, c < 3 → M.1 14 c = σ.lo c) ∧ (∀ c, c < 3 → M.1 15 c = σ.hi c) ∧ (∀ s, s < 6 → M.1 16 s = nI (σ.fw s)) ∧ (M.1 23 0 = q_b σ.on) ∧ (M.1 23 1 = σ.ov) ∧ (σ.on = true → x_Z σ M)
theorem x_S.bank {σ : q_S} {M : q_M} (h : x_S σ M) : x_bank σ.n σ.fa σ.sh M := h.1
theorem x_S.new {σ : q_S} {M : q_M} (h : x_S σ M) : ∀ q, σ.n ≤ q → q < 10 → M.1 (3 + q) 4 = 0 := h.2.1
theorem x_S.mo {σ : q_S} {M : q_M} (h : x_S σ M) : M.1 13 0 = nI σ.mo := h.2.2.1
theorem x_S.a {σ : q_S} {M : q_M} (h : x_S σ M) : M.1 13 1 = nI σ.a := h.2.2.2.1
theorem x_S.b {σ : q_S} {M : q_M} (h : x_S σ M) : M.1 13 2 = nI σ.b := h.2.2.2.2.1
theorem x_S.lo {σ : q_S} {M : q_M} (h : x_S σ M) : ∀ c, c < 3 → M.1 14 c = σ.lo c := h.2.2.2.2.2.1
theorem x_S.hi {σ : q_S} {M : q_M} (h : x_S σ M) : ∀ c, c < 3 → M.1 15 c = σ.hi c := h.2.2.2.2.2.2.1
theorem x_S.fw {σ : q_S} {M : q_M} (h : x_S σ M) : ∀ s, s < 6 → M.1 16 s = nI (σ.fw s) := h.2.2.2.2.2.2.2.1
theorem x_S.on {σ : q_S} {M : q_M} (h : x_S σ M) : M.1 23 0 = q_b σ.on := h.2.2.2.2.2.2.2.2.1
theorem x_S.ov {σ : q_S} {M : q_M} (h : x_S σ M) : M.1 23 1 = σ.ov := h.2.2.2.2.2.2.2.2.2.1
theorem x_S.sit {σ : q_S} {M : q_M} (h : x_S σ M) : σ.on = true → x_Z σ M := h.2.2.2.2.2.2.2.2.2.2
def m_Z (σ : q_S) (M : q_M) : Prop := (∀ U, U < 2 ^ σ.n → M.1 47 U = q_b (σ.ft U)) ∧ (∀ U, U < 2 ^ σ.n → M.1 48 U = q_b (s_can σ.ft σ.n U)) ∧ (m_ask σ.t σ.od M) ∧ (∀ i, i < σ.t → M.1 45 i = q_b (σ.rg i)) ∧ (∀ r, r ≤ σ.t → ∀ s, s < 6 → M.1 46 (6 * r + s) = nI (σ.W r s))
theorem m_Z.ft {σ : q_S} {M : q_M} (h : m_Z σ M) : ∀ U, U < 2 ^ σ.n → M.1 47 U = q_b (σ.ft U) := h.1
theorem m_Z.cn {σ : q_S} {M : q_M} (h : m_Z σ M) : ∀ U, U < 2 ^ σ.n → M.1 48 U = q_b (s_can σ.ft σ.n U) := h.2.1
theorem m_Z.ask {σ : q_S} {M : q_M} (h : m_Z σ M) : m_ask σ.t σ.od M := h.2.2.1
theorem m_Z.rg {σ : q_S} {M : q_M} (h : m_Z σ M) : ∀ i, i < σ.t → M.1 45 i = q_b (σ.rg i) := h.2.2.2.1
theorem m_Z.W {σ : q_S} {M : q_M} (h : m_Z σ M) : ∀ r, r ≤ σ.t → ∀ s, s < 6 → M.1 46 (6 * r + s) = nI (σ.W r s) := h.2.2.2.2
def m_S (σ : q_S) (M : q_M) : Prop := (m_bank σ.n σ.fa σ.sh M) ∧ (M.1 34 7 = nI σ.mo) ∧ (M.1 34 10 = nI σ.a) ∧ (M.1 34 11 = nI σ.b) ∧ (∀ c, c < 3 → M.1 41 c = σ.lo c) ∧ (∀ c, c < 3 → M.1 42 c = σ.hi c) ∧ (∀ s, s < 6 → M.1 43 s = nI (σ.fw s)) ∧ (M.1 34 13 = q_b σ.on) ∧ (M.1 34 14 = σ.ov) ∧ (σ.on = true → m_Z σ M)
theorem m_S.bank {σ : q_S} {M : q_M} (h : m_S σ M) : m_bank σ.n σ.fa σ.sh M := h.1
theorem m_S.mo {σ : q_S} {M : q_M} (h : m_S σ M) : M.1 34 7 = nI σ.mo := h.2.1
theorem m_S.a {σ : q_S} {M : q_M} (h : m_S σ M) : M.1 34 10 = nI σ.a := h.2.2.1
theorem m_S.b {σ : q_S} {M : q_M} (h : m_S σ M) : M.1 34 11 = nI σ.b := h.2.2.2.1
theorem m_S.lo {σ : q_S} {M : q_M} (h : m_S σ M) : ∀ c, c < 3 → M.1 41 c = σ.lo c := h.2.2.2.2.1
theorem m_S.hi {σ : q_S} {M : q_M} (h : m_S σ M) : ∀ c, c < 3 → M.1 42 c = σ.hi c := h.2.2.2.2.2.1
theorem m_S.fw {σ : q_S} {M : q_M} (h : m_S σ M) : ∀ s, s < 6 → M.1 43 s = nI (σ.fw s) := h.2.2.2.2.2.2.1
theorem m_S.on {σ : q_S} {M : q_M} (h : m_S σ M) : M.1 34 13 = q_b σ.on := h.2.2.2.2.2.2.2.1
theorem m_S.ov {σ : q_S} {M : q_M} (h : m_S σ M) : M.1 34 14 = σ.ov := h.2.2.2.2.2.2.2.2.1
theorem m_S.sit {σ : q_S} {M : q_M} (h : m_S σ M) : σ.on = true → m_Z σ M := h.2.2.2.2.2.2.2.2.2
def q_fx (M M' : q_M) : Prop := ∀ r, 34 ≤ r → M'.1 r = M.1 r
def q_fm (M M' : q_M) : Prop := ∀ r, r < 34 → M'.1 r = M.1 r
theorem x_Z.keep {σ : q_S} {M M' : q_M} (h : x_Z σ M) (ht : σ.t ≤ 6) (hf : ∀ r, 17 ≤ r → r < 34 → M'.1 r = M.1 r) : x_Z σ M' := ⟨h.set.keep (fun r h1 h2 => hf r h1 (by omega)),
  by rw [hf 23 (by decide) (by decide)]; exact h.t,
  by rw [hf 23 (by decide) (by decide)]; exact h.A,
  fun i hi => by rw [hf 24 (by decide) (by decide)]; exact h.od i hi,
  fun i hi => by rw [hf 25 (by decide) (by decide)]; exact h.rg i hi,
  fun r hr s hs => by rw [hf (27 + r) (by omega) (by omega)]; exact h.W r hr s hs⟩
theorem x_S.keep {σ : q_S} {M M' : q_M} (hO : ok_S σ) (h : x_S σ M) (hf : q_fm M M') : x_S σ M' := ⟨h.bank.keepn hO.bank.1 (fun r hr => hf r (by omega)),
  fun q h1 h2 => by rw [hf (3 + q) (by omega)]; exact h.new q h1 h2,
  by rw [hf 13 (by decide)]; exact h.mo,
  by rw [hf 13 (by decide)]; exact h.a,
  by rw [hf 13 (by decide)]; exact h.b,
  fun c hc => by rw [hf 14 (by decide)]; exact h.lo c hc,
  fun c hc => by rw [hf 15 (by decide)]; exact h.hi c hc,
  fun c hc => by rw [hf 16 (by decide)]; exact h.fw c hc,
  by rw [hf 23 (by decide)]; exact h.on,
  by rw [hf 23 (by decide)]; exact h.ov,
  fun ho => (h.sit ho).keep (hO.sit ho).t (fun r _ h2 => hf r h2)⟩
/-- the store of the model, all but what is tried out -/
theorem m_Z.keep {σ : q_S} {M M' : q_M} (h : m_Z σ M) (ht : σ.t ≤ 6) (h34 : M'.1 34 15 = M.1 34 15) (hf : ∀ r, 43 < r → r ≠ 46 → M'.1 r = M.1 r) (hw : ∀ j, j < 6 * σ.t + 6 → M'.1 46 j = M.1 46 j) : m_Z σ M' := ⟨fun U hU => by rw [hf 47 (by decide) (by decide)]; exact h.ft U hU,
  fun U hU => by rw [hf 48 (by decide) (by decide)]; exact h.cn U hU,
  ⟨h34.trans h.ask.1, fun i hi => by rw [hf 44 (by decide) (by decide)]; exact h.ask.2 i hi⟩,
  fun i hi => by rw [hf 45 (by decide) (by decide)]; exact h.rg i hi,
  fun r hr s hs => by rw [hw (6 * r + s) (by omega)]; exact h.W r hr s hs⟩
theorem m_S.keepw {σ : q_S} {M M' : q_M} (hO : ok_S σ) (h : m_S σ M) (hf : ∀ r, 34 ≤ r → r ≠ 46 → M'.1 r = M.1 r) (hw : σ.on = true → ∀ j, j < 6 * σ.t + 6 → M'.1 46 j = M.1 46 j) : m_S σ M' := ⟨h.bank.keep (congrFun (hf 34 (by decide) (by decide)) 0) (fun r h1 h2 => hf r (by omega) (by omega)),
  by rw [hf 34 (by decide) (by decide)]; exact h.mo,
  by rw [hf 34 (by decide) (by decide)]; exact h.a,
  by rw [hf 34 (by decide) (by decide)]; exact h.b,
  fun c hc => by rw [hf 41 (by decide) (by decide)]; exact h.lo c hc,
  fun c hc => by rw [hf 42 (by decide) (by decide)]; exact h.hi c hc,
  fun c hc => by rw [hf 43 (by decide) (by decide)]; exact h.fw c hc,
  by rw [hf 34 (by decide) (by decide)]; exact h.on,
  by rw [hf 34 (by decide) (by decide)]; exact h.ov,
  fun ho => (h.sit ho).keep (hO.sit ho).t (congrFun (hf 34 (by decide) (by decide)) 15) (fun r h1 h2 => hf r (by omega) h2) (hw ho)⟩
theorem m_S.keep {σ : q_S} {M M' : q_M} (hO : ok_S σ) (h : m_S σ M) (hf : q_fx M M') : m_S σ M' := h.keepw hO (fun r h1 _ => hf r h1) (fun _ j _ => congrFun (hf 46 (by decide)) j)
/-- a call on both sides: one answer, one state behind -/
def q_pr (X : q_X) (mi mj : Nat) (as : List Value) (σ : q_S) : Prop :=
  ∃ (v : Int32) (σ' : q_S), ok_S σ' ∧ (∀ (d : Nat) (M : q_M), x_S σ M → q_Ep X (d + 12) mi (.ref 0 :: as) M (fun r M' => r = some (.int v) ∧ x_S σ' M' ∧ q_fx M M')) ∧ ∀ (d : Nat) (M : q_M), m_S σ M → q_Ep X (d + 12) mj (.ref 34 :: as) M (fun r M' => r = some (.int v) ∧ m_S σ' M' ∧ q_fm M M')
theorem q_fx.rfl {M : q_M} : q_fx M M := fun _ _ => Eq.refl _
theorem q_fm.rfl {M : q_M} : q_fm M M := fun _ _ => Eq.refl _
theorem q_Ev.p {X : q_X} {d mi : Nat} {as : List Value} {M M' : q_M} {r : Option Value} {P : Option Value → q_M → Prop} (h : q_Ev X d mi as M r M') (hp : P r M') : q_Ep X d mi as M P := ⟨r, M', h, hp⟩
theorem q_Ep.mono {X : q_X} {d mi : Nat} {as : List Value} {M : q_M} {P Q : Option Value → q_M → Prop} (h : q_Ep X d mi as M P) (hp : ∀ r M', P r M' → Q r M') : q_Ep X d mi as M Q := by
  obtain ⟨r, M', k, p⟩ := h
  exact ⟨r, M', k, hp r M' p⟩
/-- a pair that leaves all as it is -/
theorem q_pr.same {X : q_X} {mi mj : Nat} {as : List Value} {σ : q_S} (v : Int32) (hO : ok_S σ) (hx : ∀ (d : Nat) (M : q_M), x_S σ M → q_Ev X (d + 12) mi (.ref 0 :: as) M (some (.int v)) M) (hm : ∀ (d : Nat) (M : q_M), m_S σ M → q_Ev X (d + 12) mj (.ref 34 :: as) M (some (.int v)) M) : q_pr X mi mj as σ :=
  ⟨v, σ, hO, fun d M h => (hx d M h).p ⟨rfl, h, q_fx.rfl⟩, fun d M h => (hm d M h).p ⟨rfl, h, q_fm.rfl⟩⟩
/-- a setter: refused, or both stores are changed -/
theorem q_pr.setter {X : q_X} {mi mj : Nat} {as : List Value} {σ σ1 : q_S} {f g : q_M → q_M} (ok : Bool) (w : Int32) (hO : ok_S σ)
    (hx : ∀ (d : Nat) (M : q_M), x_S σ M → q_Ev X (d + 12) mi (.ref 0 :: as) M (some (.int (s_r3 ok σ.on w))) (s_m3 ok σ.on (f M) M))
    (hm : ∀ (d : Nat) (M : q_M), m_S σ M → q_Ev X (d + 12) mj (.ref 34 :: as) M (some (.int (s_r3 ok σ.on w))) (s_m3 ok σ.on (g M) M))
    (h1 : ok = true → σ.on = false → ok_S σ1 ∧ (∀ M, x_S σ M → x_S σ1 (f M) ∧ q_fx M (f M)) ∧ ∀ M, m_S σ M → m_S σ1 (g M) ∧ q_fm M (g M)) : q_pr X mi mj as σ := by
  by_cases hc : ok = true ∧ σ.on = false
  · obtain ⟨o1, o2, o3⟩ := h1 hc.1 hc.2
    refine ⟨_, σ1, o1, fun d M h => (hx d M h).p ⟨rfl, ?_⟩, fun d M h => (hm d M h).p ⟨rfl, ?_⟩⟩
    · rw [s_m3, if_pos hc]; exact o2 M h
    · rw [s_m3, if_pos hc]; exact o3 M h
  · refine ⟨_, σ, hO, fun d M h => (hx d M h).p ⟨rfl, ?_⟩, fun d M h => (hm d M h).p ⟨rfl, ?_⟩⟩
    · rw [s_m3, if_neg hc]; exact ⟨h, q_fx.rfl⟩
    · rw [s_m3, if_neg hc]; exact ⟨h, q_fm.rfl⟩
theorem s_cl {x : Int32} {a b : Nat} (ha : a < 2 ^ 31) (hb : b < 2 ^ 31) (h : s_in x (nI a) (nI b) = true) : nI x.toNatClampNeg = x ∧ a ≤ x.toNatClampNeg ∧ x.toNatClampNeg ≤ b := by
  obtain ⟨k, h1, h2, rfl⟩ := s_in_inv ha hb h
  rw [nI_clamp (by omega)]
  exact ⟨rfl, h1, h2⟩
theorem s_upf {M : q_M} {r k : Nat} {v : Int32} (h : r < 34) : q_fx M (q_up M r k v) := fun _ hz => q_up_ne _ _ _ (by omega)
theorem s_upm {M : q_M} {r k : Nat} {v : Int32} (h : 34 ≤ r) : q_fm M (q_up M r k v) := fun _ hz => q_up_ne _ _ _ (by omega)
theorem s_up_if (M : q_M) (r k : Nat) (v : Int32) (j : Nat) : (q_up M r k v).1 r j = if j = k then v else M.1 r j := by rw [q_up_eq]; rfl
theorem pr_length {X : q_X} {σ : q_S} (hO : ok_S σ) (x : Int32) : q_pr X 30 72 [.int x] σ := by
  refine q_pr.setter (σ1 := (q_S.mk σ.n σ.fa σ.sh x.toNatClampNeg σ.a σ.b σ.lo σ.hi σ.fw σ.on σ.ov σ.wn σ.ft σ.t σ.od σ.rg σ.W)) (f := fun M => q_up M 13 0 x) (g := fun M => q_up M 34 7 x) (s_in x 1 6) (nI σ.mo) hO (fun d M h => ?_) (fun d M h => ?_) (fun hk ho => ?_)
  · rw [← h.mo]; exact c_length X (d + 10) x M h.on
  · rw [← h.mo]; exact m_length X (d + 10) x M h.on
  · obtain ⟨e, e1, e2⟩ := s_cl (a := 1) (b := 6) (by decide) (by decide) hk
    have hno : ∀ {P : Prop}, σ.on = true → P := fun h => absurd h (by rw [ho]; decide)
    refine ⟨⟨hO.bank, ⟨e1, e2⟩, hO.ab, hO.fw, fun h => hno h⟩, fun M h => ⟨⟨h.bank.keepn hO.bank.1 (fun r hr => q_up_ne _ _ _ (by omega)), fun q h1 h2 => (congrFun (q_up_ne M _ _ (show 3 + q ≠ 13 by omega)) 4).trans (h.new q h1 h2), ?_, h.a, h.b, h.lo, h.hi, h.fw, h.on, h.ov, fun h => hno h⟩, s_upf (by decide)⟩, fun M h => ⟨⟨h.bank.keep rfl (fun r h1 h2 => q_up_ne _ _ _ (by omega)), ?_, h.a, h.b, h.lo, h.hi, h.fw, h.on, h.ov, fun h => hno h⟩, s_upm (by decide)⟩⟩
    · exact (q_up_s M 13 0 x).trans e.symm
    · exact (q_up_s M 34 7 x).trans e.symm
theorem pr_sure {X : q_X} {σ : q_S} (hO : ok_S σ) (a b : Int32) : q_pr X 32 74 [.int a, .int b] σ := by
  have hk : ((s_in b 1 20 && s_in a 1 b) && !decide (2 * a ≤ b)) = ((s_in a 1 20 && s_in b a 20) && !decide (2 * a ≤ b)) := by
    congr 1
    unfold s_in
    by_cases h1 : b < 1
    · by_cases h2 : a < 1
      · simp [h1, h2]
      · by_cases h3 : b < a
        · simp [h1, h3]
        · have h4 := Int32.not_lt.mp h2
          have h5 := Int32.not_lt.mp h3
          exact absurd (Int32.lt_of_lt_of_le h1 h4) (fun z => absurd (Int32.lt_of_lt_of_le z h5) (Int32.lt_irrefl))
    · by_cases h2 : a < 1
      · simp [h2]
      · by_cases h3 : b < a
        · simp [h3]
        · by_cases h4 : 20 < b
          · simp [h4]
          · by_cases h5 : 20 < a
            · have h6 := Int32.not_lt.mp h3
              exact absurd (Int32.lt_of_lt_of_le h5 h6) h4
            · simp [h1, h2, h3, h4, h5]
  refine q_pr.setter (σ1 := (q_S.mk σ.n σ.fa σ.sh σ.mo a.toNatClampNeg b.toNatClampNeg σ.lo σ.hi σ.fw σ.on σ.ov σ.wn σ.ft σ.t σ.od σ.rg σ.W)) (f := fun M => q_up (q_up M 13 1 a) 13 2 b) (g := fun M => q_up (q_up M 34 10 a) 34 11 b) ((s_in b 1 20 && s_in a 1 b) && !decide (2 * a ≤ b)) (nI σ.a) hO (fun d M h => ?_) (fun d M h => ?_) (fun hk2 ho => ?_)
  · rw [← h.a]; exact c_sure X (d + 10) a b M h.on
  · rw [← h.a, hk]; exact m_sure X (d + 10) a b M h.on
  · have hb : s_in b 1 20 = true := by simp only [Bool.and_eq_true] at hk2; exact hk2.1.1
    have ha : s_in a 1 20 = true := by rw [hk] at hk2; simp only [Bool.and_eq_true] at hk2; exact hk2.1.1
    obtain ⟨ea, ea1, ea2⟩ := s_cl (a := 1) (b := 20) (by decide) (by decide) ha
    obtain ⟨eb, eb1, eb2⟩ := s_cl (a := 1) (b := 20) (by decide) (by decide) hb
    have hno : ∀ {P : Prop}, σ.on = true → P := fun h => absurd h (by rw [ho]; decide)
    refine ⟨⟨hO.bank, hO.mo, ⟨ea2, eb2⟩, hO.fw, fun h => hno h⟩, fun M h => ⟨⟨h.bank.keepn hO.bank.1 (fun r hr => (q_up_ne _ _ _ (by omega)).trans (q_up_ne _ _ _ (by omega))), fun q h1 h2 => (congrFun ((q_up_ne _ _ _ (show 3 + q ≠ 13 by omega)).trans (q_up_ne _ _ _ (show 3 + q ≠ 13 by omega))) 4).trans (h.new q h1 h2), h.mo, ?_, ?_, h.lo, h.hi, h.fw, h.on, h.ov, fun h => hno h⟩, fun r hr => (s_upf (by decide) r hr).trans (s_upf (by decide) r hr)⟩, fun M h => ⟨⟨h.bank.keep rfl (fun r h1 h2 => (q_up_ne _ _ _ (by omega)).trans (q_up_ne _ _ _ (by omega))), h.mo, ?_, ?_, h.lo, h.hi, h.fw, h.on, h.ov, fun h => hno h⟩, fun r hr => (s_upm (by decide) r hr).trans (s_upm (by decide) r hr)⟩⟩
    · exact ((q_up_o _ _ _ (by decide)).trans (q_up_s M 13 1 a)).trans ea.symm
    · exact (q_up_s _ 13 2 b).trans eb.symm
    · exact ((q_up_o _ _ _ (by decide)).trans (q_up_s M 34 10 a)).trans ea.symm
    · exact (q_up_s _ 34 11 b).trans eb.symm
theorem pr_weight {X : q_X} {σ : q_S} (hO : ok_S σ) (c v : Int32) : q_pr X 33 75 [.int c, .int v] σ := by
  refine q_pr.setter (σ1 := (q_S.mk σ.n σ.fa σ.sh σ.mo σ.a σ.b σ.lo σ.hi (fun s => if s = c.toNatClampNeg then v.toNatClampNeg else σ.fw s) σ.on σ.ov σ.wn σ.ft σ.t σ.od σ.rg σ.W)) (f := fun M => q_up M 16 c.toNatClampNeg v) (g := fun M => q_up M 43 c.toNatClampNeg v) (s_in c 0 5 && s_in v 1 3) (nI (σ.fw c.toNatClampNeg)) hO (fun d M h => ?_) (fun d M h => ?_) (fun hk2 ho => ?_)
  · have hz := c_weight X (d + 9) c v M h.on
    cases hc : (s_in c 0 5 && s_in v 1 3) with
    | false => rw [hc] at hz; exact hz
    | true =>
      rw [hc] at hz
      simp only [Bool.and_eq_true] at hc
      obtain ⟨_, _, e2⟩ := s_cl (a := 0) (b := 5) (by decide) (by decide) hc.1
      rw [h.fw _ (by omega)] at hz
      exact hz
  · have hz := m_weight X (d + 10) c v M h.on
    cases hc : (s_in c 0 5 && s_in v 1 3) with
    | false => rw [hc] at hz; exact hz
    | true =>
      rw [hc] at hz
      simp only [Bool.and_eq_true] at hc
      obtain ⟨_, _, e2⟩ := s_cl (a := 0) (b := 5) (by decide) (by decide) hc.1
      rw [h.fw _ (by omega)] at hz
      exact hz
  · simp only [Bool.and_eq_true] at hk2
    obtain ⟨_, _, c2⟩ := s_cl (a := 0) (b := 5) (by decide) (by decide) hk2.1
    obtain ⟨e, e1, e2⟩ := s_cl (a := 1) (b := 3) (by decide) (by decide) hk2.2
    have hno : ∀ {P : Prop}, σ.on = true → P := fun h => absurd h (by rw [ho]; decide)
    refine ⟨⟨hO.bank, hO.mo, hO.ab, fun s hs => ?_, fun h => hno h⟩, fun M h => ⟨⟨h.bank.keepn hO.bank.1 (fun r hr => q_up_ne _ _ _ (by omega)), fun q h1 h2 => (congrFun (q_up_ne M _ _ (show 3 + q ≠ 16 by omega)) 4).trans (h.new q h1 h2), h.mo, h.a, h.b, h.lo, h.hi, fun s hs => ?_, h.on, h.ov, fun h => hno h⟩, s_upf (by decide)⟩, fun M h => ⟨⟨h.bank.keep rfl (fun r h1 h2 => q_up_ne _ _ _ (by omega)), h.mo, h.a, h.b, h.lo, h.hi, fun s hs => ?_, h.on, h.ov, fun h => hno h⟩, s_upm (by decide)⟩⟩
    · show 1 ≤ (if s = c.toNatClampNeg then v.toNatClampNeg else σ.fw s) ∧ (if s = c.toNatClampNeg then v.toNatClampNeg else σ.fw s) ≤ 3
      by_cases z : s = c.toNatClampNeg
      · rw [if_pos z]; exact ⟨e1, e2⟩
      · rw [if_neg z]; exact hO.fw s hs
    · show _ = nI (if s = c.toNatClampNeg then v.toNatClampNeg else σ.fw s)
      rw [s_up_if]
      by_cases z : s = c.toNatClampNeg
      · rw [if_pos z, if_pos z, e]
      · rw [if_neg z, if_neg z]; exact h.fw s hs
    · show _ = nI (if s = c.toNatClampNeg then v.toNatClampNeg else σ.fw s)
      rw [s_up_if]
      by_cases z : s = c.toNatClampNeg
      · rw [if_pos z, if_pos z, e]
      · rw [if_neg z, if_neg z]; exact h.fw s hs
theorem pr_share {X : q_X} {σ : q_S} (hO : ok_S σ) (c lw hh : Int32) : q_pr X 31 73 [.int c, .int lw, .int hh] σ := by
  refine q_pr.setter (σ1 := (q_S.mk σ.n σ.fa σ.sh σ.mo σ.a σ.b (fun s => if s = c.toNatClampNeg then lw else σ.lo s) (fun s => if s = c.toNatClampNeg then hh else σ.hi s) σ.fw σ.on σ.ov σ.wn σ.ft σ.t σ.od σ.rg σ.W)) (f := fun M => q_up (q_up M 14 c.toNatClampNeg lw) 15 c.toNatClampNeg hh) (g := fun M => q_up (q_up M 41 c.toNatClampNeg lw) 42 c.toNatClampNeg hh) (s_in c 0 2 && (s_in lw 0 6 && s_in hh lw 6)) (σ.lo c.toNatClampNeg) hO (fun d M h => ?_) (fun d M h => ?_) (fun hk2 ho => ?_)
  · have hz := c_share X (d + 10) c lw hh M h.on
    cases hc : (s_in c 0 2 && (s_in lw 0 6 && s_in hh lw 6)) with
    | false => rw [hc] at hz; exact hz
    | true =>
      rw [hc] at hz
      simp only [Bool.and_eq_true] at hc
      obtain ⟨_, _, e2⟩ := s_cl (a := 0) (b := 2) (by decide) (by decide) hc.1
      rw [h.lo _ (by omega)] at hz
      exact hz
  · have hz := m_share X (d + 10) c lw hh M h.on
    cases hc : (s_in c 0 2 && (s_in lw 0 6 && s_in hh lw 6)) with
    | false => rw [hc] at hz; exact hz
    | true =>
      rw [hc] at hz
      simp only [Bool.and_eq_true] at hc
      obtain ⟨_, _, e2⟩ := s_cl (a := 0) (b := 2) (by decide) (by decide) hc.1
      rw [h.lo _ (by omega)] at hz
      exact hz
  · have hno : ∀ {P : Prop}, σ.on = true → P := fun h => absurd h (by rw [ho]; decide)
    refine ⟨⟨hO.bank, hO.mo, hO.ab, hO.fw, fun h => hno h⟩, fun M h => ⟨⟨h.bank.keepn hO.bank.1 (fun r hr => (q_up_ne _ _ _ (by omega)).trans (q_up_ne _ _ _ (by omega))), fun q h1 h2 => (congrFun ((q_up_ne _ _ _ (show 3 + q ≠ 15 by omega)).trans (q_up_ne _ _ _ (show 3 + q ≠ 14 by omega))) 4).trans (h.new q h1 h2), h.mo, h.a, h.b, fun s hs => ?_, fun s hs => ?_, h.fw, h.on, h.ov, fun h => hno h⟩, fun r hr => (s_upf (by decide) r hr).trans (s_upf (by decide) r hr)⟩, fun M h => ⟨⟨h.bank.keep rfl (fun r h1 h2 => (q_up_ne _ _ _ (by omega)).trans (q_up_ne _ _ _ (by omega))), h.mo, h.a, h.b, fun s hs => ?_, fun s hs => ?_, h.fw, h.on, h.ov, fun h => hno h⟩, fun r hr => (s_upm (by decide) r hr).trans (s_upm (by decide) r hr)⟩⟩
    · rw [q_up_ne _ _ _ (by decide), s_up_if, h.lo s hs]; rfl
    · rw [s_up_if, q_up_ne _ _ _ (by decide), h.hi s hs]; rfl
    · rw [q_up_ne _ _ _ (by decide), s_up_if, h.lo s hs]; rfl
    · rw [s_up_if, q_up_ne _ _ _ (by decide), h.hi s hs]; rfl
