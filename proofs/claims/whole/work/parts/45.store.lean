/-! The store behind the constructors (by program: wip/whole/c45.py) -/
def q_M0 : q_M := (fun r => match r with
  | 13 => fun k => match k with
    | 0 => 4
    | 1 => 9
    | 2 => 10
    | _ => 0
  | 15 => upd (upd (upd (fun _ => 0) 0 6) 1 6) 2 6
  | 16 => upd (upd (upd (upd (upd (upd (fun _ => 0) 0 1) 1 1) 2 1) 3 1) 4 1) 5 1
  | 34 => fun k => match k with
    | 7 => 4
    | 10 => 9
    | 11 => 10
    | _ => 0
  | 42 => upd (upd (upd (fun _ => 0) 0 6) 1 6) 2 6
  | 43 => upd (upd (upd (upd (upd (upd (fun _ => 0) 0 1) 1 1) 2 1) 3 1) 4 1) 5 1
  | _ => fun _ => 0, fun _ _ => 0)
def q_S0 : q_S := q_S.mk 0 (fun _ _ => 0) (fun _ => 0) 4 9 10 (fun _ => 0) (fun _ => 6) (fun _ => 1) false 0 (fun _ => false) (fun _ => false) 0 (fun _ => 0) (fun _ => false) (fun _ _ => 0)
theorem q_S0_ok : ok_S q_S0 := ⟨⟨Nat.zero_le _, fun q hq => absurd hq (Nat.not_lt_zero _)⟩, ⟨by decide, by decide⟩, ⟨by decide, by decide⟩, fun s hs => ⟨Nat.le_refl 1, (by decide : 1 ≤ 3)⟩, fun z => absurd (show false = true from z) (by decide)⟩
theorem q_c3 {P : Nat → Prop} (h0 : P 0) (h1 : P 1) (h2 : P 2) : ∀ c, c < 3 → P c := by
  intro c hc
  rcases (show c = 0 ∨ c = 1 ∨ c = 2 by omega) with e | e | e <;> subst e <;> assumption
theorem q_c6s {P : Nat → Prop} (h0 : P 0) (h1 : P 1) (h2 : P 2) (h3 : P 3) (h4 : P 4) (h5 : P 5) : ∀ c, c < 6 → P c := by
  intro c hc
  rcases (show c = 0 ∨ c = 1 ∨ c = 2 ∨ c = 3 ∨ c = 4 ∨ c = 5 by omega) with e | e | e | e | e | e <;> subst e <;> assumption
theorem q_S0_x : x_S q_S0 q_M0 := ⟨⟨rfl, fun q hq => absurd hq (Nat.not_lt_zero _)⟩, fun q _ hq => by
    have key : ∀ q, q < 10 → q_M0.1 (3 + q) 4 = 0 := by decide +kernel
    exact key q hq, rfl, rfl, rfl, q_c3 (P := fun c => q_M0.1 14 c = q_S0.lo c) rfl rfl rfl, q_c3 (P := fun c => q_M0.1 15 c = q_S0.hi c) rfl rfl rfl, q_c6s (P := fun c => q_M0.1 16 c = nI (q_S0.fw c)) rfl rfl rfl rfl rfl rfl, rfl, rfl, fun z => absurd (show false = true from z) (by decide)⟩
theorem q_S0_m : m_S q_S0 q_M0 := ⟨⟨rfl, fun q hq => absurd hq (Nat.not_lt_zero _)⟩, rfl, rfl, rfl, q_c3 (P := fun c => q_M0.1 41 c = q_S0.lo c) rfl rfl rfl, q_c3 (P := fun c => q_M0.1 42 c = q_S0.hi c) rfl rfl rfl, q_c6s (P := fun c => q_M0.1 43 c = nI (q_S0.fw c)) rfl rfl rfl rfl rfl rfl, rfl, rfl, fun z => absurd (show false = true from z) (by decide)⟩
def qe_ad (x y b : Nat) (a a5 : Nat → Nat) (i : Nat) : Nat := ([x, a 0, a 1, ((a 1)) + 1 + 0, ((a 1)) + 1 + 1, ((a 1)) + 1 + 2, ((a 1)) + 1 + 3, ((a 1)) + 1 + 4, ((a 1)) + 1 + 5, ((a 1)) + 1 + 6, ((a 1)) + 1 + 7, ((a 1)) + 1 + 8, ((a 1)) + 1 + 9, a 2, a 3, a 4, a 5, a 6, a 7, a 8, a 9, a 10, a 11, a 12, a 13, a 14, a 15, ((a 15)) + 1 + 0, ((a 15)) + 1 + 1, ((a 15)) + 1 + 2, ((a 15)) + 1 + 3, ((a 15)) + 1 + 4, ((a 15)) + 1 + 5, ((a 15)) + 1 + 6, y, (a5 0), (a5 1), (a5 2), (a5 3), (a5 4), (a5 5), (a5 6), (a5 7), (a5 8), (a5 9), (a5 10), (a5 11), (a5 12), (a5 13), b] : List Nat).getD i 0
abbrev qe_L (cI cZ cA : ClassId) (x y : Nat) (a a5 : Nat → Nat) : va_W := [(x, .inr (4, [.ref (a 0), .ref (a 2), .ref (a 6), .ref (a 12)])), (a 0, .inr (0, [.int 0, .ref ((a 1))])), (a 1, qc_r cA 10 (a 1)), (((a 1)) + 1 + 0, qc_f cI 11 (fun _ => 0)), (((a 1)) + 1 + 1, qc_f cI 11 (fun _ => 0)), (((a 1)) + 1 + 2, qc_f cI 11 (fun _ => 0)), (((a 1)) + 1 + 3, qc_f cI 11 (fun _ => 0)), (((a 1)) + 1 + 4, qc_f cI 11 (fun _ => 0)), (((a 1)) + 1 + 5, qc_f cI 11 (fun _ => 0)), (((a 1)) + 1 + 6, qc_f cI 11 (fun _ => 0)), (((a 1)) + 1 + 7, qc_f cI 11 (fun _ => 0)), (((a 1)) + 1 + 8, qc_f cI 11 (fun _ => 0)), (((a 1)) + 1 + 9, qc_f cI 11 (fun _ => 0)), (a 2, .inr (2, [.int 4, .int 9, .int 10, .ref ((a 3)), .ref ((a 4)), .ref ((a 5))])), (a 3, qc_f cI 3 (fun _ => 0)), (a 4, qc_f cI 3 (upd (upd (upd (fun _ => 0) 0 6) 1 6) 2 6)), (a 5, qc_f cI 6 (upd (upd (upd (upd (upd (upd (fun _ => 0) 0 1) 1 1) 2 1) 3 1) 4 1) 5 1)), (a 6, .inr (1, [.int 0, .int 0, .int 0, .ref ((a 7)), .ref ((a 8)), .ref ((a 9)), .ref ((a 10)), .ref ((a 11))])), (a 7, qc_f cI 3 (fun _ => 0)), (a 8, qc_f cI 3 (fun _ => 0)), (a 9, qc_f cI 3 (fun _ => 0)), (a 10, qc_f cZ 1024 (fun _ => 0)), (a 11, qc_f cZ 1024 (fun _ => 0)), (a 12, .inr (3, [.int 0, .int 0, .int 0, .int 0, .ref ((a 13)), .ref ((a 14)), .ref ((a 15))])), (a 13, qc_f cI 6 (fun _ => 0)), (a 14, qc_f cZ 6 (fun _ => 0)), (a 15, qc_r cA 7 (a 15)), (((a 15)) + 1 + 0, qc_f cI 6 (fun _ => 0)), (((a 15)) + 1 + 1, qc_f cI 6 (fun _ => 0)), (((a 15)) + 1 + 2, qc_f cI 6 (fun _ => 0)), (((a 15)) + 1 + 3, qc_f cI 6 (fun _ => 0)), (((a 15)) + 1 + 4, qc_f cI 6 (fun _ => 0)), (((a 15)) + 1 + 5, qc_f cI 6 (fun _ => 0)), (((a 15)) + 1 + 6, qc_f cI 6 (fun _ => 0)), (y, .inr (5, [.int 0, .ref (a5 0), .ref (a5 1), .ref (a5 2), .ref (a5 3), .ref (a5 4), .ref (a5 5), .int 4, .ref (a5 6), .ref (a5 7), .int 9, .int 10, .ref (a5 8), .int 0, .int 0, .int 0, .ref (a5 9), .ref (a5 10), .ref (a5 11), .ref (a5 12), .ref (a5 13), .long 0, .long 0])), ((a5 0), qc_f cI 10 (fun _ => 0)), ((a5 1), qc_f cI 10 (fun _ => 0)), ((a5 2), qc_f cI 10 (fun _ => 0)), ((a5 3), qc_f cI 10 (fun _ => 0)), ((a5 4), qc_f cI 10 (fun _ => 0)), ((a5 5), qc_f cI 60 (fun _ => 0)), ((a5 6), qc_f cI 3 (fun _ => 0)), ((a5 7), qc_f cI 3 (upd (upd (upd (fun _ => 0) 0 6) 1 6) 2 6)), ((a5 8), qc_f cI 6 (upd (upd (upd (upd (upd (upd (fun _ => 0) 0 1) 1 1) 2 1) 3 1) 4 1) 5 1)), ((a5 9), qc_f cI 16 (fun _ => 0)), ((a5 10), qc_f cZ 16 (fun _ => 0)), ((a5 11), qc_f cI 72 (fun _ => 0)), ((a5 12), qc_f cZ 1024 (fun _ => 0)), ((a5 13), qc_f cZ 1024 (fun _ => 0))]
set_option maxRecDepth 10000 in
theorem qe_P {D : va_G} {cI cZ cA : ClassId} {x y b : Nat} {a a5 : Nat → Nat} {H : Heap} (h : va_P D vwCl (qe_L cI cZ cA x y a a5) H) : va_P D vwCl (q_W (qe_ad x y b a a5, cI, cZ, cA) q_M0) H := by
  intro k q hq
  have hk : k < 49 := by
    rcases Nat.lt_or_ge k 49 with h1 | h1
    · exact h1
    · rw [q_W_out _ q_M0 h1] at hq; cases hq
  rw [q_W_at _ q_M0 hk] at hq
  cases hq
  match k, hk with
  | 0, _ => exact h 0 _ rfl
  | 1, _ => exact h 1 _ rfl
  | 2, _ =>
    have h2 := h 2 _ rfl
    have e : vp_cell cA (10, .inr (.inr (.inr (.inr (fun j => some (a 1 + 1 + j)))))) = vp_cell cA (10, .inr (.inr (.inr (.inr (fun j => some (qe_ad x y b a a5 (3 + j))))))) := by
      rw [vp_cell_q, vp_cell_q]
      refine qb_arrV_c (fun j hj => ?_)
      match j, hj with
      | 0, _ => rfl
      | 1, _ => rfl
      | 2, _ => rfl
      | 3, _ => rfl
      | 4, _ => rfl
      | 5, _ => rfl
      | 6, _ => rfl
      | 7, _ => rfl
      | 8, _ => rfl
      | 9, _ => rfl
      | j + 10, hj => exact absurd hj (by omega)
    exact (show H[a 1]? = _ from h2).trans (congrArg some e)
  | 3, _ => exact h 3 _ rfl
  | 4, _ => exact h 4 _ rfl
  | 5, _ => exact h 5 _ rfl
  | 6, _ => exact h 6 _ rfl
  | 7, _ => exact h 7 _ rfl
  | 8, _ => exact h 8 _ rfl
  | 9, _ => exact h 9 _ rfl
  | 10, _ => exact h 10 _ rfl
  | 11, _ => exact h 11 _ rfl
  | 12, _ => exact h 12 _ rfl
  | 13, _ => exact h 13 _ rfl
  | 14, _ => exact h 14 _ rfl
  | 15, _ => exact h 15 _ rfl
  | 16, _ => exact h 16 _ rfl
  | 17, _ => exact h 17 _ rfl
  | 18, _ => exact h 18 _ rfl
  | 19, _ => exact h 19 _ rfl
  | 20, _ => exact h 20 _ rfl
  | 21, _ => exact h 21 _ rfl
  | 22, _ => exact h 22 _ rfl
  | 23, _ => exact h 23 _ rfl
  | 24, _ => exact h 24 _ rfl
  | 25, _ => exact h 25 _ rfl
  | 26, _ =>
    have h2 := h 26 _ rfl
    have e : vp_cell cA (7, .inr (.inr (.inr (.inr (fun j => some (a 15 + 1 + j)))))) = vp_cell cA (7, .inr (.inr (.inr (.inr (fun j => some (qe_ad x y b a a5 (27 + j))))))) := by
      rw [vp_cell_q, vp_cell_q]
      refine qb_arrV_c (fun j hj => ?_)
      match j, hj with
      | 0, _ => rfl
      | 1, _ => rfl
      | 2, _ => rfl
      | 3, _ => rfl
      | 4, _ => rfl
      | 5, _ => rfl
      | 6, _ => rfl
      | j + 7, hj => exact absurd hj (by omega)
    exact (show H[a 15]? = _ from h2).trans (congrArg some e)
  | 27, _ => exact h 27 _ rfl
  | 28, _ => exact h 28 _ rfl
  | 29, _ => exact h 29 _ rfl
  | 30, _ => exact h 30 _ rfl
  | 31, _ => exact h 31 _ rfl
  | 32, _ => exact h 32 _ rfl
  | 33, _ => exact h 33 _ rfl
  | 34, _ => exact h 34 _ rfl
  | 35, _ => exact h 35 _ rfl
  | 36, _ => exact h 36 _ rfl
  | 37, _ => exact h 37 _ rfl
  | 38, _ => exact h 38 _ rfl
  | 39, _ => exact h 39 _ rfl
  | 40, _ => exact h 40 _ rfl
  | 41, _ => exact h 41 _ rfl
  | 42, _ => exact h 42 _ rfl
  | 43, _ => exact h 43 _ rfl
  | 44, _ => exact h 44 _ rfl
  | 45, _ => exact h 45 _ rfl
  | 46, _ => exact h 46 _ rfl
  | 47, _ => exact h 47 _ rfl
  | 48, _ => exact h 48 _ rfl
  | k + 49, hk => exact absurd hk (by omega)
theorem qe_Dc {A : Nat → Prop} {w1 w2 : va_W} (h : va_D A w1) (he : w2.map (fun q => q.1) = w1.map (fun q => q.1)) : va_D A w2 := by
  have key : ∀ (k : Nat) (q : Nat × va_E), w2[k]? = some q → ∃ q1, w1[k]? = some q1 ∧ q1.1 = q.1 := by
    intro k q hq
    have h1 : (w2.map (fun q => q.1))[k]? = some q.1 := by rw [List.getElem?_map, hq]; rfl
    rw [he, List.getElem?_map] at h1
    cases hz : w1[k]? with
    | none => rw [hz] at h1; cases h1
    | some q1 => rw [hz] at h1; exact ⟨q1, rfl, Option.some.inj h1⟩
  refine ⟨fun i j p q hi hj e => ?_, fun k q hk => ?_⟩
  · obtain ⟨p1, a1, a2⟩ := key i p hi
    obtain ⟨q1, b1, b2⟩ := key j q hj
    exact h.1 i j p1 q1 a1 b1 (a2.trans (e.trans b2.symm))
  · obtain ⟨q1, a1, a2⟩ := key k q hk
    rw [← a2]
    exact h.2 k q1 a1
set_option maxRecDepth 10000 in
theorem qe_D {A : Nat → Prop} {cI cZ cA : ClassId} {x y b : Nat} {a a5 : Nat → Nat} (h : va_D A (qe_L cI cZ cA x y a a5)) : ∀ M, va_D A (q_W (qe_ad x y b a a5, cI, cZ, cA) M) := fun M => q_W_D (M := q_M0) (qe_Dc h rfl)
