/-! Contracts: two fractions beside each other, both sides (by program: wip/whole/c14.py) -/
theorem lgN_lt {a b : Nat} (ha : a < 9223372036854775808) (hb : b < 9223372036854775808) : lg_cmp (lN a) (lN b) < 0 ↔ a < b := (lg_cmp_lt _ _).trans (pk_lLT ha hb)
theorem lgN_le {a b : Nat} (ha : a < 9223372036854775808) (hb : b < 9223372036854775808) : lg_cmp (lN a) (lN b) ≤ 0 ↔ a ≤ b := (lg_cmp_le _ _).trans (pk_lLE ha hb)
theorem lgN_eq {a b : Nat} (ha : a < 9223372036854775808) (hb : b < 9223372036854775808) : lg_cmp (lN a) (lN b) = 0 ↔ a = b := (lg_cmp_eq _ _).trans (pk_lEQ ha hb)
theorem lgN_ge {a b : Nat} (ha : a < 9223372036854775808) (hb : b < 9223372036854775808) : 0 ≤ lg_cmp (lN a) (lN b) ↔ b ≤ a := (lg_cmp_ge _ _).trans (pk_lLE hb ha)
theorem lgN_gt {a b : Nat} (ha : a < 9223372036854775808) (hb : b < 9223372036854775808) : 0 < lg_cmp (lN a) (lN b) ↔ b < a := (lg_cmp_gt _ _).trans (pk_lLT hb ha)
/-- whole parts, then the rests turned over -/
def s_cmp : Nat → Nat → Nat → Nat → Nat → Int32 → Int32
  | 0, _, _, _, _, _ => 0
  | n + 1, a, b, c, e, sg => if a / b = c / e then (if a % b = 0 ∨ c % e = 0 then (if a % b = c % e then 0 else if a % b = 0 then -sg else sg) else s_cmp n b (a % b) e (c % e) (-sg)) else (if a / b < c / e then -sg else sg)
/-- it comes to an end -/
def s_fin : Nat → Nat → Nat → Nat → Nat → Prop
  | 0, _, _, _, _ => False
  | n + 1, a, b, c, e => a / b = c / e → ¬ (a % b = 0 ∨ c % e = 0) → s_fin n b (a % b) e (c % e)
theorem s_fin_up : ∀ (n a b c e : Nat), s_fin n a b c e → s_fin (n + 1) a b c e
  | 0, _, _, _, _, h => h.elim
  | n + 1, a, b, c, e, h => fun h1 h2 => s_fin_up n _ _ _ _ (h h1 h2)
theorem s_fin_le {m n a b c e : Nat} (h : s_fin m a b c e) (hmn : m ≤ n) : s_fin n a b c e := by
  obtain ⟨k, rfl⟩ := Nat.exists_eq_add_of_le hmn
  induction k with
  | zero => exact h
  | succ k ih => exact s_fin_up _ _ _ _ _ (ih (by omega))
theorem s_fin_2 : ∀ (k a b c e : Nat), 0 < b → b < 2 ^ k → s_fin (2 * k) a b c e
  | 0, a, b, c, e, h0, h1 => by simp at h1; omega
  | k + 1, a, b, c, e, h0, h1 => by
    show a / b = c / e → ¬ (a % b = 0 ∨ c % e = 0) → s_fin (2 * k + 1) b (a % b) e (c % e)
    intro h2 h3
    show b / (a % b) = e / (c % e) → ¬ (b % (a % b) = 0 ∨ e % (c % e) = 0) → s_fin (2 * k) (a % b) (b % (a % b)) (c % e) (e % (c % e))
    intro h4 h5
    have h6 : a % b < b := Nat.mod_lt _ h0
    have h7 : 0 < a % b := by omega
    have h8 : b % (a % b) < a % b := Nat.mod_lt _ h7
    refine s_fin_2 k _ _ _ _ (by omega) ?_
    have h9 : b % (a % b) + (a % b) ≤ b := by
      have := Nat.div_add_mod b (a % b)
      have h10 : 1 ≤ b / (a % b) := (Nat.le_div_iff_mul_le h7).mpr (by omega)
      have h11 : (a % b) * 1 ≤ (a % b) * (b / (a % b)) := Nat.mul_le_mul_left _ h10
      omega
    rw [Nat.pow_succ] at h1
    omega
theorem s_cmp_s (n a b c e : Nat) (sg : Int32) : s_cmp (n + 1) a b c e sg = (if a / b = c / e then (if a % b = 0 ∨ c % e = 0 then (if a % b = c % e then 0 else if a % b = 0 then -sg else sg) else s_cmp n b (a % b) e (c % e) (-sg)) else (if a / b < c / e then -sg else sg)) := rfl
theorem s_cmp_up : ∀ (n a b c e : Nat) (sg : Int32), s_fin n a b c e → s_cmp (n + 1) a b c e sg = s_cmp n a b c e sg
  | 0, _, _, _, _, _, h => h.elim
  | n + 1, a, b, c, e, sg, h => by
    rw [s_cmp_s (n + 1) a b c e sg, s_cmp_s n a b c e sg]
    by_cases h1 : a / b = c / e
    · rw [if_pos h1, if_pos h1]
      by_cases h2 : a % b = 0 ∨ c % e = 0
      · rw [if_pos h2, if_pos h2]
      · rw [if_neg h2, if_neg h2]
        exact s_cmp_up n _ _ _ _ _ (h h1 h2)
    · rw [if_neg h1, if_neg h1]
theorem s_cmp_le {m n a b c e : Nat} {sg : Int32} (h : s_fin m a b c e) (hmn : m ≤ n) : s_cmp n a b c e sg = s_cmp m a b c e sg := by
  obtain ⟨k, rfl⟩ := Nat.exists_eq_add_of_le hmn
  induction k with
  | zero => rfl
  | succ k ih => exact (s_cmp_up _ _ _ _ _ _ (s_fin_le h (Nat.le_add_right m k))).trans (ih (Nat.le_add_right m k))
def s_lc (x y : Int64) : Int32 := if x < y then -1 else if x = y then 0 else 1
theorem s_lc_z {p q : Nat} {sg : Int32} (hp : p < 9223372036854775808) (hq : q < 9223372036854775808) (h : p = 0 ∨ q = 0) : sg * s_lc (lN p) (lN q) = if p = q then 0 else if p = 0 then -sg else sg := by
  unfold s_lc
  by_cases h1 : p = q
  · subst h1
    rw [if_neg (fun z => absurd ((pk_lLT hp hp).mp z) (by omega)), if_pos rfl, if_pos rfl, Int32.mul_zero]
  · rw [if_neg h1]
    by_cases h2 : p = 0
    · rw [if_pos h2, if_pos ((pk_lLT hp hq).mpr (by omega)), Int32.mul_neg, Int32.mul_one]
    · rw [if_neg h2, if_neg (fun z => absurd ((pk_lLT hp hq).mp z) (by omega)), if_neg (fun z => h1 ((pk_lEQ hp hq).mp z)), Int32.mul_one]
set_option maxRecDepth 10000 in
theorem c_lcompare (X : q_X) (d : Nat) (x y : Int64) (M : q_M) : q_Ev X (d + 1) 111 [.long x, .long y] M (some (.int (s_lc x y))) (M) := by
  refine q_Ev.ofW rfl ?_
  show q_Wp X _ 111 (0, [some (.long x), none, some (.long y), none], [], M) _
  refine q_Wp.gd 3 (0 ≤ (lg_cmp x y)) (c1 := (10, [some (.long x), none, some (.long y), none], [], M)) (c2 := (6, [some (.long x), none, some (.long y), none], [], M)) rfl (fun h1 => ?_) (fun h1 => ?_)
  · -- t
    have h1 : ¬ x < y := fun z => absurd ((lg_cmp_lt x y).mpr z) (Int32.not_lt.mpr h1)
    refine q_Wp.gd 3 (¬ (lg_cmp x y) = 0) (c1 := (20, [some (.long x), none, some (.long y), none], [], M)) (c2 := (16, [some (.long x), none, some (.long y), none], [], M)) rfl (fun h2 => ?_) (fun h2 => ?_)
    · -- tt
      skip
      have h2 : ¬ x = y := fun z => h2 ((lg_cmp_eq x y).mpr z)
      refine q_Wp.gn 0 (c' := (21, [some (.long x), none, some (.long y), none], [.int 1], M)) rfl ?_
      exact q_Wp.rt rfl rfl ⟨by simp only [s_lc]; simp [*], by rfl⟩
    · -- tf
      have h2 : (lg_cmp x y) = 0 := Classical.byContradiction h2
      have h2 : x = y := (lg_cmp_eq x y).mp h2
      refine q_Wp.gn 1 (c' := (21, [some (.long x), none, some (.long y), none], [.int 0], M)) rfl ?_
      exact q_Wp.rt rfl rfl ⟨by simp only [s_lc]; simp [*], by rfl⟩
  · -- f
    have h1 : x < y := (lg_cmp_lt x y).mp (Int32.not_le.mp h1)
    refine q_Wp.gn 1 (c' := (21, [some (.long x), none, some (.long y), none], [.int (-1)], M)) rfl ?_
    exact q_Wp.rt rfl rfl ⟨by simp only [s_lc]; simp [*], by rfl⟩

set_option maxRecDepth 10000 in
theorem c_compareFractions (X : q_X) (d : Nat) {a0 b0 c0 e0 : Nat} (ha : a0 < 9223372036854775808) (hb : b0 < 9223372036854775808) (hc : c0 < 9223372036854775808) (he : e0 < 9223372036854775808) (hb0 : 0 < b0) (he0 : 0 < e0) (M : q_M) : q_Ev X (d + 2) 66 [.long (lN a0), .long (lN b0), .long (lN c0), .long (lN e0)] M (some (.int (s_cmp 100 a0 b0 c0 e0 1))) (M) := by
  refine q_Ev.ofW rfl ?_
  show q_Wp X _ 66 (0, [some (.long (lN a0)), none, some (.long (lN b0)), none, some (.long (lN c0)), none, some (.long (lN e0)), none, none, none, none, none, none, none, none, none, none, none], [], M) _
  have key : ∀ (kz : Nat) (t a b c e : Nat) (sg : Int32) (z0 z1 z2 z3 z4 z5 z6 z7 : Option Value), t ≤ 100 → a < 9223372036854775808 → b < 9223372036854775808 → c < 9223372036854775808 → e < 9223372036854775808 → 0 < b → 0 < e → s_cmp 100 a0 b0 c0 e0 1 = s_cmp (100 - t) a b c e sg → 100 - t < kz → q_Wp X (d + 1) 66 (6, [some (.long (lN a)), none, some (.long (lN b)), none, some (.long (lN c)), none, some (.long (lN e)), none, some (.int sg), some (.int (nI t)), z0, z1, z2, z3, z4, z5, z6, z7], [], M) (fun r M' => r = some (.int (s_cmp 100 a0 b0 c0 e0 1)) ∧ M' = M) := by
    intro kz
    induction kz with
    | zero => intro t a b c e sg z0 z1 z2 z3 z4 z5 z6 z7 ht ha hb hc he hb0 he0 hv hm; exact absurd hm (by omega)
    | succ kz ih =>
      intro t a b c e sg z0 z1 z2 z3 z4 z5 z6 z7 ht ha hb hc he hb0 he0 hv hm
      have hbn : ¬ lN b = 0 := fun z => absurd ((pk_lEQ (b := 0) hb (by decide)).mp z) (by omega)
      have hen : ¬ lN e = 0 := fun z => absurd ((pk_lEQ (b := 0) he (by decide)).mp z) (by omega)
      have q1 : a / b < 9223372036854775808 := Nat.lt_of_le_of_lt (Nat.div_le_self a b) ha
      have q2 : c / e < 9223372036854775808 := Nat.lt_of_le_of_lt (Nat.div_le_self c e) hc
      have q3 : a % b < b := Nat.mod_lt a hb0
      have q4 : c % e < e := Nat.mod_lt c he0
      refine q_Wp.gd 2 (100 ≤ (nI t)) (c1 := (124, [some (.long (lN a)), none, some (.long (lN b)), none, some (.long (lN c)), none, some (.long (lN e)), none, some (.int sg), some (.int (nI t)), z0, z1, z2, z3, z4, z5, z6, z7], [], M)) (c2 := (13, [some (.long (lN a)), none, some (.long (lN b)), none, some (.long (lN c)), none, some (.long (lN e)), none, some (.int sg), some (.int (nI t)), z0, z1, z2, z3, z4, z5, z6, z7], [], M)) rfl (fun g1 => ?_) (fun g1 => ?_)
      · -- t
        have g1 : 100 ≤ t := (nI_leI (a := 100) (b := t) (by omega) (by omega)).mp g1
        refine q_Wp.gn 0 (c' := (125, [some (.long (lN a)), none, some (.long (lN b)), none, some (.long (lN c)), none, some (.long (lN e)), none, some (.int sg), some (.int (nI t)), z0, z1, z2, z3, z4, z5, z6, z7], [.int 0], M)) rfl ?_
        exact q_Wp.rt rfl rfl ⟨by rw [hv, show 100 - t = 0 by omega]; rfl, by rfl⟩
      · -- f
        have g1 : ¬ 100 ≤ t := fun z => g1 ((nI_leI (a := 100) (b := t) (by omega) (by omega)).mpr z)
        refine q_Wp.gd 3 ((lg_cmp (lN b) 0) ≤ 0) (c1 := (124, [some (.long (lN a)), none, some (.long (lN b)), none, some (.long (lN c)), none, some (.long (lN e)), none, some (.int sg), some (.int (nI t)), z0, z1, z2, z3, z4, z5, z6, z7], [], M)) (c2 := (19, [some (.long (lN a)), none, some (.long (lN b)), none, some (.long (lN c)), none, some (.long (lN e)), none, some (.int sg), some (.int (nI t)), z0, z1, z2, z3, z4, z5, z6, z7], [], M)) rfl (fun g2 => ?_) (fun g2 => ?_)
        · -- ft
          have g2 : b ≤ 0 := (lgN_le (a := b) (b := 0) (by omega) (by omega)).mp g2
          exact absurd hb0 (by omega)
        · -- ff
          have g2 : ¬ b ≤ 0 := fun z => g2 ((lgN_le (a := b) (b := 0) (by omega) (by omega)).mpr z)
          refine q_Wp.gd 3 ((lg_cmp (lN e) 0) ≤ 0) (c1 := (124, [some (.long (lN a)), none, some (.long (lN b)), none, some (.long (lN c)), none, some (.long (lN e)), none, some (.int sg), some (.int (nI t)), z0, z1, z2, z3, z4, z5, z6, z7], [], M)) (c2 := (26, [some (.long (lN a)), none, some (.long (lN b)), none, some (.long (lN c)), none, some (.long (lN e)), none, some (.int sg), some (.int (nI t)), z0, z1, z2, z3, z4, z5, z6, z7], [], M)) rfl (fun g3 => ?_) (fun g3 => ?_)
          · -- fft
            have g3 : e ≤ 0 := (lgN_le (a := e) (b := 0) (by omega) (by omega)).mp g3
            exact absurd he0 (by omega)
          · -- fff
            have g3 : ¬ e ≤ 0 := fun z => g3 ((lgN_le (a := e) (b := 0) (by omega) (by omega)).mpr z)
            refine q_Wp.gi 2 ((lN b) = 0) (c1 := (29, [some (.long (lN a)), none, some (.long (lN b)), none, some (.long (lN c)), none, some (.long (lN e)), none, some (.int sg), some (.int (nI t)), z0, z1, z2, z3, z4, z5, z6, z7], [.long ((lN a) / (lN b))], M)) rfl (by exact hbn) ?_
            refine q_Wp.cv (c' := (29, [some (.long (lN a)), none, some (.long (lN b)), none, some (.long (lN c)), none, some (.long (lN e)), none, some (.int sg), some (.int (nI t)), z0, z1, z2, z3, z4, z5, z6, z7], [.long (lN (a / b))], M)) (by first | rw [pk_lDiv ha hb0 hb] | simp only [pk_lDiv ha hb0 hb]) ?_
            refine q_Wp.gi 3 ((lN e) = 0) (c1 := (36, [some (.long (lN a)), none, some (.long (lN b)), none, some (.long (lN c)), none, some (.long (lN e)), none, some (.int sg), some (.int (nI t)), some (.long (lN (a / b))), none, z2, z3, z4, z5, z6, z7], [.long ((lN c) / (lN e))], M)) rfl (by exact hen) ?_
            refine q_Wp.cv (c' := (36, [some (.long (lN a)), none, some (.long (lN b)), none, some (.long (lN c)), none, some (.long (lN e)), none, some (.int sg), some (.int (nI t)), some (.long (lN (a / b))), none, z2, z3, z4, z5, z6, z7], [.long (lN (c / e))], M)) (by first | rw [pk_lDiv hc he0 he] | simp only [pk_lDiv hc he0 he]) ?_
            refine q_Wp.gd 4 ((lg_cmp (lN (a / b)) (lN (c / e))) = 0) (c1 := (63, [some (.long (lN a)), none, some (.long (lN b)), none, some (.long (lN c)), none, some (.long (lN e)), none, some (.int sg), some (.int (nI t)), some (.long (lN (a / b))), none, some (.long (lN (c / e))), none, z4, z5, z6, z7], [], M)) (c2 := (46, [some (.long (lN a)), none, some (.long (lN b)), none, some (.long (lN c)), none, some (.long (lN e)), none, some (.int sg), some (.int (nI t)), some (.long (lN (a / b))), none, some (.long (lN (c / e))), none, z4, z5, z6, z7], [], M)) rfl (fun g4 => ?_) (fun g4 => ?_)
            · -- ffft
              have g4 : a / b = c / e := (lgN_eq (a := a / b) (b := c / e) (by omega) (by omega)).mp g4
              refine q_Wp.gi 2 ((lN b) = 0) (c1 := (66, [some (.long (lN a)), none, some (.long (lN b)), none, some (.long (lN c)), none, some (.long (lN e)), none, some (.int sg), some (.int (nI t)), some (.long (lN (a / b))), none, some (.long (lN (c / e))), none, z4, z5, z6, z7], [.long ((lN a) - (lN a) / (lN b) * (lN b))], M)) rfl (by exact hbn) ?_
              refine q_Wp.cv (c' := (66, [some (.long (lN a)), none, some (.long (lN b)), none, some (.long (lN c)), none, some (.long (lN e)), none, some (.int sg), some (.int (nI t)), some (.long (lN (a / b))), none, some (.long (lN (c / e))), none, z4, z5, z6, z7], [.long (lN (a % b))], M)) (by first | rw [pk_lRem ha hb0 hb] | simp only [pk_lRem ha hb0 hb]) ?_
              refine q_Wp.gi 3 ((lN e) = 0) (c1 := (73, [some (.long (lN a)), none, some (.long (lN b)), none, some (.long (lN c)), none, some (.long (lN e)), none, some (.int sg), some (.int (nI t)), some (.long (lN (a / b))), none, some (.long (lN (c / e))), none, some (.long (lN (a % b))), none, z6, z7], [.long ((lN c) - (lN c) / (lN e) * (lN e))], M)) rfl (by assumption) ?_
              refine q_Wp.cv (c' := (73, [some (.long (lN a)), none, some (.long (lN b)), none, some (.long (lN c)), none, some (.long (lN e)), none, some (.int sg), some (.int (nI t)), some (.long (lN (a / b))), none, some (.long (lN (c / e))), none, some (.long (lN (a % b))), none, z6, z7], [.long (lN (c % e))], M)) (by first | rw [pk_lRem hc he0 he] | simp only [pk_lRem hc he0 he]) ?_
              refine q_Wp.gd 4 ((lg_cmp (lN (a % b)) 0) = 0) (c1 := (89, [some (.long (lN a)), none, some (.long (lN b)), none, some (.long (lN c)), none, some (.long (lN e)), none, some (.int sg), some (.int (nI t)), some (.long (lN (a / b))), none, some (.long (lN (c / e))), none, some (.long (lN (a % b))), none, some (.long (lN (c % e))), none], [], M)) (c2 := (82, [some (.long (lN a)), none, some (.long (lN b)), none, some (.long (lN c)), none, some (.long (lN e)), none, some (.int sg), some (.int (nI t)), some (.long (lN (a / b))), none, some (.long (lN (c / e))), none, some (.long (lN (a % b))), none, some (.long (lN (c % e))), none], [], M)) rfl (fun g5 => ?_) (fun g5 => ?_)
              · -- ffftt
                have g5 : a % b = 0 := (lgN_eq (a := a % b) (b := 0) (by omega) (by omega)).mp g5
                refine q_Wp.gc 3 (mj := 111) (as := [.long (lN (a % b)), .long (lN (c % e))]) (pc := 98) (ls := [some (.long (lN a)), none, some (.long (lN b)), none, some (.long (lN c)), none, some (.long (lN e)), none, some (.int sg), some (.int (nI t)), some (.long (lN (a / b))), none, some (.long (lN (c / e))), none, some (.long (lN (a % b))), none, some (.long (lN (c % e))), none]) (st := [.int sg]) (M := M) (r1 := some (.int (s_lc (lN (a % b)) (lN (c % e))))) (M1 := M) rfl (c_lcompare X d (lN (a % b)) (lN (c % e)) M) ?_
                show q_Wp X _ 66 (98, [some (.long (lN a)), none, some (.long (lN b)), none, some (.long (lN c)), none, some (.long (lN e)), none, some (.int sg), some (.int (nI t)), some (.long (lN (a / b))), none, some (.long (lN (c / e))), none, some (.long (lN (a % b))), none, some (.long (lN (c % e))), none], [.int (s_lc (lN (a % b)) (lN (c % e))), .int sg], M) _
                refine q_Wp.gn 0 (c' := (99, [some (.long (lN a)), none, some (.long (lN b)), none, some (.long (lN c)), none, some (.long (lN e)), none, some (.int sg), some (.int (nI t)), some (.long (lN (a / b))), none, some (.long (lN (c / e))), none, some (.long (lN (a % b))), none, some (.long (lN (c % e))), none], [.int (sg * (s_lc (lN (a % b)) (lN (c % e))))], M)) rfl ?_
                exact q_Wp.rt rfl rfl ⟨by rw [hv, show 100 - t = (100 - (t + 1)) + 1 by omega, s_cmp_s, if_pos g4, if_pos (Or.inl g5)]; exact congrArg (fun z => some (Value.int z)) (s_lc_z (p := a % b) (q := c % e) (by omega) (by omega) (Or.inl g5)), by rfl⟩
              · -- ffftf
                have g5 : ¬ a % b = 0 := fun z => g5 ((lgN_eq (a := a % b) (b := 0) (by omega) (by omega)).mpr z)
                refine q_Wp.gd 3 (¬ (lg_cmp (lN (c % e)) 0) = 0) (c1 := (100, [some (.long (lN a)), none, some (.long (lN b)), none, some (.long (lN c)), none, some (.long (lN e)), none, some (.int sg), some (.int (nI t)), some (.long (lN (a / b))), none, some (.long (lN (c / e))), none, some (.long (lN (a % b))), none, some (.long (lN (c % e))), none], [], M)) (c2 := (89, [some (.long (lN a)), none, some (.long (lN b)), none, some (.long (lN c)), none, some (.long (lN e)), none, some (.int sg), some (.int (nI t)), some (.long (lN (a / b))), none, some (.long (lN (c / e))), none, some (.long (lN (a % b))), none, some (.long (lN (c % e))), none], [], M)) rfl (fun g6 => ?_) (fun g6 => ?_)
                · -- ffftft
                  have g6 : ¬ c % e = 0 := fun z => g6 ((lgN_eq (a := c % e) (b := 0) (by omega) (by omega)).mpr z)
                  refine q_Wp.gn 11 (c' := (121, [some (.long (lN b)), none, some (.long (lN (a % b))), none, some (.long (lN e)), none, some (.long (lN (c % e))), none, some (.int (-sg)), some (.int ((nI t) + 1)), some (.long (lN (a / b))), none, some (.long (lN (c / e))), none, some (.long (lN (a % b))), none, some (.long (lN (c % e))), none], [], M)) rfl ?_
                  refine q_Wp.cv (c' := (121, [some (.long (lN b)), none, some (.long (lN (a % b))), none, some (.long (lN e)), none, some (.long (lN (c % e))), none, some (.int (-sg)), some (.int (nI (t + 1))), some (.long (lN (a / b))), none, some (.long (lN (c / e))), none, some (.long (lN (a % b))), none, some (.long (lN (c % e))), none], [], M)) (by first | rw [nI_1] | simp only [nI_1]) ?_
                  refine q_Wp.gn 0 (c' := (6, [some (.long (lN b)), none, some (.long (lN (a % b))), none, some (.long (lN e)), none, some (.long (lN (c % e))), none, some (.int (-sg)), some (.int (nI (t + 1))), some (.long (lN (a / b))), none, some (.long (lN (c / e))), none, some (.long (lN (a % b))), none, some (.long (lN (c % e))), none], [], M)) rfl ?_
                  exact ih (t + 1) b (a % b) e (c % e) _ _ _ _ _ _ _ _ _ (by omega) (by omega) (by omega) (by omega) (by omega) (by omega) (by omega) (by rw [hv, show 100 - t = (100 - (t + 1)) + 1 by omega, s_cmp_s, if_pos g4, if_neg (by omega)]) (by omega)
                · -- ffftff
                  have g6 : c % e = 0 := (lgN_eq (a := c % e) (b := 0) (by omega) (by omega)).mp (Classical.byContradiction g6)
                  refine q_Wp.gc 3 (mj := 111) (as := [.long (lN (a % b)), .long (lN (c % e))]) (pc := 98) (ls := [some (.long (lN a)), none, some (.long (lN b)), none, some (.long (lN c)), none, some (.long (lN e)), none, some (.int sg), some (.int (nI t)), some (.long (lN (a / b))), none, some (.long (lN (c / e))), none, some (.long (lN (a % b))), none, some (.long (lN (c % e))), none]) (st := [.int sg]) (M := M) (r1 := some (.int (s_lc (lN (a % b)) (lN (c % e))))) (M1 := M) rfl (c_lcompare X d (lN (a % b)) (lN (c % e)) M) ?_
                  show q_Wp X _ 66 (98, [some (.long (lN a)), none, some (.long (lN b)), none, some (.long (lN c)), none, some (.long (lN e)), none, some (.int sg), some (.int (nI t)), some (.long (lN (a / b))), none, some (.long (lN (c / e))), none, some (.long (lN (a % b))), none, some (.long (lN (c % e))), none], [.int (s_lc (lN (a % b)) (lN (c % e))), .int sg], M) _
                  refine q_Wp.gn 0 (c' := (99, [some (.long (lN a)), none, some (.long (lN b)), none, some (.long (lN c)), none, some (.long (lN e)), none, some (.int sg), some (.int (nI t)), some (.long (lN (a / b))), none, some (.long (lN (c / e))), none, some (.long (lN (a % b))), none, some (.long (lN (c % e))), none], [.int (sg * (s_lc (lN (a % b)) (lN (c % e))))], M)) rfl ?_
                  exact q_Wp.rt rfl rfl ⟨by rw [hv, show 100 - t = (100 - (t + 1)) + 1 by omega, s_cmp_s, if_pos g4, if_pos (Or.inr g6)]; exact congrArg (fun z => some (Value.int z)) (s_lc_z (p := a % b) (q := c % e) (by omega) (by omega) (Or.inr g6)), by rfl⟩
            · -- ffff
              have g4 : ¬ a / b = c / e := fun z => g4 ((lgN_eq (a := a / b) (b := c / e) (by omega) (by omega)).mpr z)
              refine q_Wp.gd 3 ((lg_cmp (lN (a / b)) (lN (c / e))) ≤ 0) (c1 := (59, [some (.long (lN a)), none, some (.long (lN b)), none, some (.long (lN c)), none, some (.long (lN e)), none, some (.int sg), some (.int (nI t)), some (.long (lN (a / b))), none, some (.long (lN (c / e))), none, z4, z5, z6, z7], [], M)) (c2 := (54, [some (.long (lN a)), none, some (.long (lN b)), none, some (.long (lN c)), none, some (.long (lN e)), none, some (.int sg), some (.int (nI t)), some (.long (lN (a / b))), none, some (.long (lN (c / e))), none, z4, z5, z6, z7], [], M)) rfl (fun g7 => ?_) (fun g7 => ?_)
              · -- fffft
                have g7 : a / b ≤ c / e := (lgN_le (a := a / b) (b := c / e) (by omega) (by omega)).mp g7
                refine q_Wp.gn 1 (c' := (62, [some (.long (lN a)), none, some (.long (lN b)), none, some (.long (lN c)), none, some (.long (lN e)), none, some (.int sg), some (.int (nI t)), some (.long (lN (a / b))), none, some (.long (lN (c / e))), none, z4, z5, z6, z7], [.int (-sg)], M)) rfl ?_
                exact q_Wp.rt rfl rfl ⟨by rw [hv, show 100 - t = (100 - (t + 1)) + 1 by omega, s_cmp_s, if_neg g4, if_pos (by omega)], by rfl⟩
              · -- fffff
                have g7 : ¬ a / b ≤ c / e := fun z => g7 ((lgN_le (a := a / b) (b := c / e) (by omega) (by omega)).mpr z)
                refine q_Wp.gn 1 (c' := (62, [some (.long (lN a)), none, some (.long (lN b)), none, some (.long (lN c)), none, some (.long (lN e)), none, some (.int sg), some (.int (nI t)), some (.long (lN (a / b))), none, some (.long (lN (c / e))), none, z4, z5, z6, z7], [.int sg], M)) rfl ?_
                exact q_Wp.rt rfl rfl ⟨by rw [hv, show 100 - t = (100 - (t + 1)) + 1 by omega, s_cmp_s, if_neg g4, if_neg (by omega)], by rfl⟩
  refine q_Wp.gn 3 (c' := (6, [some (.long (lN a0)), none, some (.long (lN b0)), none, some (.long (lN c0)), none, some (.long (lN e0)), none, some (.int 1), some (.int 0), none, none, none, none, none, none, none, none], [], M)) rfl ?_
  exact key 101 0 a0 b0 c0 e0 1 none none none none none none none none (by omega) ha hb hc he hb0 he0 rfl (by omega)

set_option maxRecDepth 10000 in
theorem c_beside (X : q_X) (d : Nat) {n a0 b0 c0 e0 : Nat} (ha : a0 < 9223372036854775808) (hb : b0 < 9223372036854775808) (hc : c0 < 9223372036854775808) (he : e0 < 9223372036854775808) (hb0 : 0 < b0) (he0 : 0 < e0) (hfin : s_fin n a0 b0 c0 e0) (M : q_M) : q_Ev X (d + 1) 92 [.long (lN a0), .long (lN b0), .long (lN c0), .long (lN e0)] M (some (.int (s_cmp n a0 b0 c0 e0 1))) (M) := by
  refine q_Ev.ofW rfl ?_
  show q_Wp X _ 92 (0, [some (.long (lN a0)), none, some (.long (lN b0)), none, some (.long (lN c0)), none, some (.long (lN e0)), none, none, none, none, none, none, none, none, none, none, none, none, none, none, none, none], [], M) _
  have key : ∀ (k : Nat) (a b c e : Nat) (sg : Int32) (z0 z1 z2 z3 z4 z5 : Option Value), a < 9223372036854775808 → b < 9223372036854775808 → c < 9223372036854775808 → e < 9223372036854775808 → 0 < b → 0 < e → s_fin k a b c e → q_Wp X d 92 (17, [some (.long (lN a0)), none, some (.long (lN b0)), none, some (.long (lN c0)), none, some (.long (lN e0)), none, some (.long (lN a)), none, some (.long (lN b)), none, some (.long (lN c)), none, some (.long (lN e)), none, some (.int sg), z0, z1, z2, z3, z4, z5], [], M) (fun r M' => r = some (.int (s_cmp k a b c e sg)) ∧ M' = M) := by
    intro k
    induction k with
    | zero => intro a b c e sg z0 z1 z2 z3 z4 z5 ha hb hc he hb0 he0 hfin; exact hfin.elim
    | succ k ih =>
      intro a b c e sg z0 z1 z2 z3 z4 z5 ha hb hc he hb0 he0 hfin
      have hbn : ¬ lN b = 0 := fun z => absurd ((pk_lEQ (b := 0) hb (by decide)).mp z) (by omega)
      have hen : ¬ lN e = 0 := fun z => absurd ((pk_lEQ (b := 0) he (by decide)).mp z) (by omega)
      have q1 : a / b < 9223372036854775808 := Nat.lt_of_le_of_lt (Nat.div_le_self a b) ha
      have q2 : c / e < 9223372036854775808 := Nat.lt_of_le_of_lt (Nat.div_le_self c e) hc
      have q3 : a % b < b := Nat.mod_lt a hb0
      have q4 : c % e < e := Nat.mod_lt c he0
      refine q_Wp.gi 2 ((lN b) = 0) (c1 := (22, [some (.long (lN a0)), none, some (.long (lN b0)), none, some (.long (lN c0)), none, some (.long (lN e0)), none, some (.long (lN a)), none, some (.long (lN b)), none, some (.long (lN c)), none, some (.long (lN e)), none, some (.int sg), z0, z1, z2, z3, z4, z5], [.long ((lN a) / (lN b))], M)) rfl (by exact hbn) ?_
      refine q_Wp.cv (c' := (22, [some (.long (lN a0)), none, some (.long (lN b0)), none, some (.long (lN c0)), none, some (.long (lN e0)), none, some (.long (lN a)), none, some (.long (lN b)), none, some (.long (lN c)), none, some (.long (lN e)), none, some (.int sg), z0, z1, z2, z3, z4, z5], [.long (lN (a / b))], M)) (by first | rw [pk_lDiv ha hb0 hb] | simp only [pk_lDiv ha hb0 hb]) ?_
      refine q_Wp.gi 3 ((lN e) = 0) (c1 := (29, [some (.long (lN a0)), none, some (.long (lN b0)), none, some (.long (lN c0)), none, some (.long (lN e0)), none, some (.long (lN a)), none, some (.long (lN b)), none, some (.long (lN c)), none, some (.long (lN e)), none, some (.int sg), some (.long (lN (a / b))), none, z2, z3, z4, z5], [.long ((lN c) / (lN e))], M)) rfl (by exact hen) ?_
      refine q_Wp.cv (c' := (29, [some (.long (lN a0)), none, some (.long (lN b0)), none, some (.long (lN c0)), none, some (.long (lN e0)), none, some (.long (lN a)), none, some (.long (lN b)), none, some (.long (lN c)), none, some (.long (lN e)), none, some (.int sg), some (.long (lN (a / b))), none, z2, z3, z4, z5], [.long (lN (c / e))], M)) (by first | rw [pk_lDiv hc he0 he] | simp only [pk_lDiv hc he0 he]) ?_
      refine q_Wp.gd 4 ((lg_cmp (lN (a / b)) (lN (c / e))) = 0) (c1 := (56, [some (.long (lN a0)), none, some (.long (lN b0)), none, some (.long (lN c0)), none, some (.long (lN e0)), none, some (.long (lN a)), none, some (.long (lN b)), none, some (.long (lN c)), none, some (.long (lN e)), none, some (.int sg), some (.long (lN (a / b))), none, some (.long (lN (c / e))), none, z4, z5], [], M)) (c2 := (39, [some (.long (lN a0)), none, some (.long (lN b0)), none, some (.long (lN c0)), none, some (.long (lN e0)), none, some (.long (lN a)), none, some (.long (lN b)), none, some (.long (lN c)), none, some (.long (lN e)), none, some (.int sg), some (.long (lN (a / b))), none, some (.long (lN (c / e))), none, z4, z5], [], M)) rfl (fun g1 => ?_) (fun g1 => ?_)
      · -- t
        have g1 : a / b = c / e := (lgN_eq (a := a / b) (b := c / e) (by omega) (by omega)).mp g1
        refine q_Wp.gi 2 ((lN b) = 0) (c1 := (61, [some (.long (lN a0)), none, some (.long (lN b0)), none, some (.long (lN c0)), none, some (.long (lN e0)), none, some (.long (lN a)), none, some (.long (lN b)), none, some (.long (lN c)), none, some (.long (lN e)), none, some (.int sg), some (.long (lN (a / b))), none, some (.long (lN (c / e))), none, z4, z5], [.long ((lN a) - (lN a) / (lN b) * (lN b))], M)) rfl (by exact hbn) ?_
        refine q_Wp.cv (c' := (61, [some (.long (lN a0)), none, some (.long (lN b0)), none, some (.long (lN c0)), none, some (.long (lN e0)), none, some (.long (lN a)), none, some (.long (lN b)), none, some (.long (lN c)), none, some (.long (lN e)), none, some (.int sg), some (.long (lN (a / b))), none, some (.long (lN (c / e))), none, z4, z5], [.long (lN (a % b))], M)) (by first | rw [pk_lRem ha hb0 hb] | simp only [pk_lRem ha hb0 hb]) ?_
        refine q_Wp.gi 3 ((lN e) = 0) (c1 := (68, [some (.long (lN a0)), none, some (.long (lN b0)), none, some (.long (lN c0)), none, some (.long (lN e0)), none, some (.long (lN (a % b))), none, some (.long (lN b)), none, some (.long (lN c)), none, some (.long (lN e)), none, some (.int sg), some (.long (lN (a / b))), none, some (.long (lN (c / e))), none, z4, z5], [.long ((lN c) - (lN c) / (lN e) * (lN e))], M)) rfl (by exact hen) ?_
        refine q_Wp.cv (c' := (68, [some (.long (lN a0)), none, some (.long (lN b0)), none, some (.long (lN c0)), none, some (.long (lN e0)), none, some (.long (lN (a % b))), none, some (.long (lN b)), none, some (.long (lN c)), none, some (.long (lN e)), none, some (.int sg), some (.long (lN (a / b))), none, some (.long (lN (c / e))), none, z4, z5], [.long (lN (c % e))], M)) (by first | rw [pk_lRem hc he0 he] | simp only [pk_lRem hc he0 he]) ?_
        refine q_Wp.gd 4 ((lg_cmp (lN (a % b)) 0) = 0) (c1 := (84, [some (.long (lN a0)), none, some (.long (lN b0)), none, some (.long (lN c0)), none, some (.long (lN e0)), none, some (.long (lN (a % b))), none, some (.long (lN b)), none, some (.long (lN (c % e))), none, some (.long (lN e)), none, some (.int sg), some (.long (lN (a / b))), none, some (.long (lN (c / e))), none, z4, z5], [], M)) (c2 := (77, [some (.long (lN a0)), none, some (.long (lN b0)), none, some (.long (lN c0)), none, some (.long (lN e0)), none, some (.long (lN (a % b))), none, some (.long (lN b)), none, some (.long (lN (c % e))), none, some (.long (lN e)), none, some (.int sg), some (.long (lN (a / b))), none, some (.long (lN (c / e))), none, z4, z5], [], M)) rfl (fun g2 => ?_) (fun g2 => ?_)
        · -- tt
          have g2 : a % b = 0 := (lgN_eq (a := a % b) (b := 0) (by omega) (by omega)).mp g2
          refine q_Wp.gd 3 (¬ (lg_cmp (lN (a % b)) (lN (c % e))) = 0) (c1 := (96, [some (.long (lN a0)), none, some (.long (lN b0)), none, some (.long (lN c0)), none, some (.long (lN e0)), none, some (.long (lN (a % b))), none, some (.long (lN b)), none, some (.long (lN (c % e))), none, some (.long (lN e)), none, some (.int sg), some (.long (lN (a / b))), none, some (.long (lN (c / e))), none, z4, z5], [], M)) (c2 := (92, [some (.long (lN a0)), none, some (.long (lN b0)), none, some (.long (lN c0)), none, some (.long (lN e0)), none, some (.long (lN (a % b))), none, some (.long (lN b)), none, some (.long (lN (c % e))), none, some (.long (lN e)), none, some (.int sg), some (.long (lN (a / b))), none, some (.long (lN (c / e))), none, z4, z5], [], M)) rfl (fun g3 => ?_) (fun g3 => ?_)
          · -- ttt
            have g3 : ¬ a % b = c % e := fun z => g3 ((lgN_eq (a := a % b) (b := c % e) (by omega) (by omega)).mpr z)
            refine q_Wp.gd 3 (¬ (lg_cmp (lN (a % b)) 0) = 0) (c1 := (109, [some (.long (lN a0)), none, some (.long (lN b0)), none, some (.long (lN c0)), none, some (.long (lN e0)), none, some (.long (lN (a % b))), none, some (.long (lN b)), none, some (.long (lN (c % e))), none, some (.long (lN e)), none, some (.int sg), some (.long (lN (a / b))), none, some (.long (lN (c / e))), none, z4, z5], [], M)) (c2 := (103, [some (.long (lN a0)), none, some (.long (lN b0)), none, some (.long (lN c0)), none, some (.long (lN e0)), none, some (.long (lN (a % b))), none, some (.long (lN b)), none, some (.long (lN (c % e))), none, some (.long (lN e)), none, some (.int sg), some (.long (lN (a / b))), none, some (.long (lN (c / e))), none, z4, z5], [], M)) rfl (fun g4 => ?_) (fun g4 => ?_)
            · -- tttt
              have g4 : ¬ a % b = 0 := fun z => g4 ((lgN_eq (a := a % b) (b := 0) (by omega) (by omega)).mpr z)
              refine q_Wp.gn 0 (c' := (111, [some (.long (lN a0)), none, some (.long (lN b0)), none, some (.long (lN c0)), none, some (.long (lN e0)), none, some (.long (lN (a % b))), none, some (.long (lN b)), none, some (.long (lN (c % e))), none, some (.long (lN e)), none, some (.int sg), some (.long (lN (a / b))), none, some (.long (lN (c / e))), none, z4, z5], [.int sg], M)) rfl ?_
              exact q_Wp.rt rfl rfl ⟨by rw [s_cmp_s, if_pos g1, if_pos (by omega), if_neg (by omega), if_neg (by omega)], by rfl⟩
            · -- tttf
              have g4 : a % b = 0 := (lgN_eq (a := a % b) (b := 0) (by omega) (by omega)).mp (Classical.byContradiction g4)
              refine q_Wp.gn 2 (c' := (111, [some (.long (lN a0)), none, some (.long (lN b0)), none, some (.long (lN c0)), none, some (.long (lN e0)), none, some (.long (lN (a % b))), none, some (.long (lN b)), none, some (.long (lN (c % e))), none, some (.long (lN e)), none, some (.int sg), some (.long (lN (a / b))), none, some (.long (lN (c / e))), none, z4, z5], [.int (-sg)], M)) rfl ?_
              exact q_Wp.rt rfl rfl ⟨by rw [s_cmp_s, if_pos g1, if_pos (by omega), if_neg (by omega), if_pos (by omega)], by rfl⟩
          · -- ttf
            have g3 : a % b = c % e := (lgN_eq (a := a % b) (b := c % e) (by omega) (by omega)).mp (Classical.byContradiction g3)
            refine q_Wp.gn 1 (c' := (111, [some (.long (lN a0)), none, some (.long (lN b0)), none, some (.long (lN c0)), none, some (.long (lN e0)), none, some (.long (lN (a % b))), none, some (.long (lN b)), none, some (.long (lN (c % e))), none, some (.long (lN e)), none, some (.int sg), some (.long (lN (a / b))), none, some (.long (lN (c / e))), none, z4, z5], [.int 0], M)) rfl ?_
            exact q_Wp.rt rfl rfl ⟨by rw [s_cmp_s, if_pos g1, if_pos (by omega), if_pos (by omega)], by rfl⟩
        · -- tf
          have g2 : ¬ a % b = 0 := fun z => g2 ((lgN_eq (a := a % b) (b := 0) (by omega) (by omega)).mpr z)
          refine q_Wp.gd 3 (¬ (lg_cmp (lN (c % e)) 0) = 0) (c1 := (112, [some (.long (lN a0)), none, some (.long (lN b0)), none, some (.long (lN c0)), none, some (.long (lN e0)), none, some (.long (lN (a % b))), none, some (.long (lN b)), none, some (.long (lN (c % e))), none, some (.long (lN e)), none, some (.int sg), some (.long (lN (a / b))), none, some (.long (lN (c / e))), none, z4, z5], [], M)) (c2 := (84, [some (.long (lN a0)), none, some (.long (lN b0)), none, some (.long (lN c0)), none, some (.long (lN e0)), none, some (.long (lN (a % b))), none, some (.long (lN b)), none, some (.long (lN (c % e))), none, some (.long (lN e)), none, some (.int sg), some (.long (lN (a / b))), none, some (.long (lN (c / e))), none, z4, z5], [], M)) rfl (fun g5 => ?_) (fun g5 => ?_)
          · -- tft
            have g5 : ¬ c % e = 0 := fun z => g5 ((lgN_eq (a := c % e) (b := 0) (by omega) (by omega)).mpr z)
            refine q_Wp.gn 15 (c' := (17, [some (.long (lN a0)), none, some (.long (lN b0)), none, some (.long (lN c0)), none, some (.long (lN e0)), none, some (.long (lN b)), none, some (.long (lN (a % b))), none, some (.long (lN e)), none, some (.long (lN (c % e))), none, some (.int (-sg)), some (.long (lN (a / b))), none, some (.long (lN (c / e))), none, some (.long (lN (c % e))), none], [], M)) rfl ?_
            rw [s_cmp_s, if_pos g1, if_neg (by omega)]
            exact ih b (a % b) e (c % e) _ _ _ _ _ _ _ (by omega) (by omega) (by omega) (by omega) (by omega) (by omega) (hfin g1 (by omega))
          · -- tff
            have g5 : c % e = 0 := (lgN_eq (a := c % e) (b := 0) (by omega) (by omega)).mp (Classical.byContradiction g5)
            refine q_Wp.gd 3 (¬ (lg_cmp (lN (a % b)) (lN (c % e))) = 0) (c1 := (96, [some (.long (lN a0)), none, some (.long (lN b0)), none, some (.long (lN c0)), none, some (.long (lN e0)), none, some (.long (lN (a % b))), none, some (.long (lN b)), none, some (.long (lN (c % e))), none, some (.long (lN e)), none, some (.int sg), some (.long (lN (a / b))), none, some (.long (lN (c / e))), none, z4, z5], [], M)) (c2 := (92, [some (.long (lN a0)), none, some (.long (lN b0)), none, some (.long (lN c0)), none, some (.long (lN e0)), none, some (.long (lN (a % b))), none, some (.long (lN b)), none, some (.long (lN (c % e))), none, some (.long (lN e)), none, some (.int sg), some (.long (lN (a / b))), none, some (.long (lN (c / e))), none, z4, z5], [], M)) rfl (fun g6 => ?_) (fun g6 => ?_)
            · -- tfft
              have g6 : ¬ a % b = c % e := fun z => g6 ((lgN_eq (a := a % b) (b := c % e) (by omega) (by omega)).mpr z)
              refine q_Wp.gd 3 (¬ (lg_cmp (lN (a % b)) 0) = 0) (c1 := (109, [some (.long (lN a0)), none, some (.long (lN b0)), none, some (.long (lN c0)), none, some (.long (lN e0)), none, some (.long (lN (a % b))), none, some (.long (lN b)), none, some (.long (lN (c % e))), none, some (.long (lN e)), none, some (.int sg), some (.long (lN (a / b))), none, some (.long (lN (c / e))), none, z4, z5], [], M)) (c2 := (103, [some (.long (lN a0)), none, some (.long (lN b0)), none, some (.long (lN c0)), none, some (.long (lN e0)), none, some (.long (lN (a % b))), none, some (.long (lN b)), none, some (.long (lN (c % e))), none, some (.long (lN e)), none, some (.int sg), some (.long (lN (a / b))), none, some (.long (lN (c / e))), none, z4, z5], [], M)) rfl (fun g7 => ?_) (fun g7 => ?_)
              · -- tfftt
                have g7 : ¬ a % b = 0 := fun z => g7 ((lgN_eq (a := a % b) (b := 0) (by omega) (by omega)).mpr z)
                refine q_Wp.gn 0 (c' := (111, [some (.long (lN a0)), none, some (.long (lN b0)), none, some (.long (lN c0)), none, some (.long (lN e0)), none, some (.long (lN (a % b))), none, some (.long (lN b)), none, some (.long (lN (c % e))), none, some (.long (lN e)), none, some (.int sg), some (.long (lN (a / b))), none, some (.long (lN (c / e))), none, z4, z5], [.int sg], M)) rfl ?_
                exact q_Wp.rt rfl rfl ⟨by rw [s_cmp_s, if_pos g1, if_pos (by omega), if_neg (by omega), if_neg (by omega)], by rfl⟩
              · -- tfftf
                have g7 : a % b = 0 := (lgN_eq (a := a % b) (b := 0) (by omega) (by omega)).mp (Classical.byContradiction g7)
                refine q_Wp.gn 2 (c' := (111, [some (.long (lN a0)), none, some (.long (lN b0)), none, some (.long (lN c0)), none, some (.long (lN e0)), none, some (.long (lN (a % b))), none, some (.long (lN b)), none, some (.long (lN (c % e))), none, some (.long (lN e)), none, some (.int sg), some (.long (lN (a / b))), none, some (.long (lN (c / e))), none, z4, z5], [.int (-sg)], M)) rfl ?_
                exact q_Wp.rt rfl rfl ⟨by rw [s_cmp_s, if_pos g1, if_pos (by omega), if_neg (by omega), if_pos (by omega)], by rfl⟩
            · -- tfff
              have g6 : a % b = c % e := (lgN_eq (a := a % b) (b := c % e) (by omega) (by omega)).mp (Classical.byContradiction g6)
              refine q_Wp.gn 1 (c' := (111, [some (.long (lN a0)), none, some (.long (lN b0)), none, some (.long (lN c0)), none, some (.long (lN e0)), none, some (.long (lN (a % b))), none, some (.long (lN b)), none, some (.long (lN (c % e))), none, some (.long (lN e)), none, some (.int sg), some (.long (lN (a / b))), none, some (.long (lN (c / e))), none, z4, z5], [.int 0], M)) rfl ?_
              exact q_Wp.rt rfl rfl ⟨by rw [s_cmp_s, if_pos g1, if_pos (by omega), if_pos (by omega)], by rfl⟩
      · -- f
        have g1 : ¬ a / b = c / e := fun z => g1 ((lgN_eq (a := a / b) (b := c / e) (by omega) (by omega)).mpr z)
        refine q_Wp.gd 3 (0 ≤ (lg_cmp (lN (a / b)) (lN (c / e)))) (c1 := (53, [some (.long (lN a0)), none, some (.long (lN b0)), none, some (.long (lN c0)), none, some (.long (lN e0)), none, some (.long (lN a)), none, some (.long (lN b)), none, some (.long (lN c)), none, some (.long (lN e)), none, some (.int sg), some (.long (lN (a / b))), none, some (.long (lN (c / e))), none, z4, z5], [], M)) (c2 := (47, [some (.long (lN a0)), none, some (.long (lN b0)), none, some (.long (lN c0)), none, some (.long (lN e0)), none, some (.long (lN a)), none, some (.long (lN b)), none, some (.long (lN c)), none, some (.long (lN e)), none, some (.int sg), some (.long (lN (a / b))), none, some (.long (lN (c / e))), none, z4, z5], [], M)) rfl (fun g8 => ?_) (fun g8 => ?_)
        · -- ft
          have g8 : c / e ≤ a / b := (lgN_ge (a := a / b) (b := c / e) (by omega) (by omega)).mp g8
          refine q_Wp.gn 0 (c' := (55, [some (.long (lN a0)), none, some (.long (lN b0)), none, some (.long (lN c0)), none, some (.long (lN e0)), none, some (.long (lN a)), none, some (.long (lN b)), none, some (.long (lN c)), none, some (.long (lN e)), none, some (.int sg), some (.long (lN (a / b))), none, some (.long (lN (c / e))), none, z4, z5], [.int sg], M)) rfl ?_
          exact q_Wp.rt rfl rfl ⟨by rw [s_cmp_s, if_neg g1, if_neg (by omega)], by rfl⟩
        · -- ff
          have g8 : ¬ c / e ≤ a / b := fun z => g8 ((lgN_ge (a := a / b) (b := c / e) (by omega) (by omega)).mpr z)
          refine q_Wp.gn 2 (c' := (55, [some (.long (lN a0)), none, some (.long (lN b0)), none, some (.long (lN c0)), none, some (.long (lN e0)), none, some (.long (lN a)), none, some (.long (lN b)), none, some (.long (lN c)), none, some (.long (lN e)), none, some (.int sg), some (.long (lN (a / b))), none, some (.long (lN (c / e))), none, z4, z5], [.int (-sg)], M)) rfl ?_
          exact q_Wp.rt rfl rfl ⟨by rw [s_cmp_s, if_neg g1, if_pos (by omega)], by rfl⟩
  refine q_Wp.gn 9 (c' := (17, [some (.long (lN a0)), none, some (.long (lN b0)), none, some (.long (lN c0)), none, some (.long (lN e0)), none, some (.long (lN a0)), none, some (.long (lN b0)), none, some (.long (lN c0)), none, some (.long (lN e0)), none, some (.int 1), none, none, none, none, none, none], [], M)) rfl ?_
  exact key n a0 b0 c0 e0 1 none none none none none none ha hb hc he hb0 he0 hfin

