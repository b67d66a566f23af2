/-! Contracts: all sets that fit, their parts, what may be asked (by program: wip/whole/c18.py) -/
def ok_bank (n : Nat) (fa : Nat → Nat → Nat) : Prop := n ≤ 10 ∧ ∀ q, q < n → fa q 0 < 5 ∧ fa q 1 < 3 ∧ fa q 2 < 3 ∧ 1 ≤ fa q 3 ∧ fa q 3 < 100 ∧ ∀ s, s < 6 → 1 ≤ fa q (5 + s) ∧ fa q (5 + s) ≤ 4
def x_bank (n : Nat) (fa : Nat → Nat → Nat) (sh : Nat → Int32) (M : q_M) : Prop := M.1 1 0 = nI n ∧ ∀ q, q < n → (∀ v, v < 11 → v ≠ 4 → M.1 (3 + q) v = nI (fa q v)) ∧ M.1 (3 + q) 4 = sh q
theorem x_bank.keep {n : Nat} {fa : Nat → Nat → Nat} {sh : Nat → Int32} {M M' : q_M} (h : x_bank n fa sh M) (hn : n ≤ 10) (hf : ∀ r, r < 17 → M'.1 r = M.1 r) : x_bank n fa sh M' :=
  ⟨by rw [hf 1 (by decide)]; exact h.1, fun q hq => ⟨fun v hv hv4 => by rw [hf (3 + q) (by omega)]; exact (h.2 q hq).1 v hv hv4, by rw [hf (3 + q) (by omega)]; exact (h.2 q hq).2⟩⟩
def s_wn (fa : Nat → Nat → Nat) (sh : Nat → Int32) (q : Nat) : Bool := decide (nI (fa q 3) ≤ sh q)
theorem s_sorted.keep {fa : Nat → Nat → Nat} {wn : Nat → Bool} {i : Nat} {M M' : q_M} (h : s_sorted fa wn i M) (h17 : M'.1 17 = M.1 17) (h18 : M'.1 18 = M.1 18) (h19 : M'.1 19 = M.1 19) (h20 : M'.1 20 = M.1 20) : s_sorted fa wn i M' := by
  unfold s_sorted at h ⊢
  rw [h17, h18, h19, h20]
  exact h
theorem s_sorted_0 (fa : Nat → Nat → Nat) (wn : Nat → Bool) (M : q_M) (x : Int32) : s_sorted fa wn 0 (q_up (s_clr M) 17 0 x) := by
  refine ⟨rfl, rfl, fun g hg => ?_, fun g hg => ?_, fun g hg => ?_⟩ <;> (rcases (show g = 0 ∨ g = 1 ∨ g = 2 by omega) with h | h | h <;> subst h <;> rfl)
theorem s_clr_o (M : q_M) {r : Nat} (h : r < 17 ∨ 20 < r) : (s_clr M).1 r = M.1 r := by
  simp only [s_clr, q_up]
  repeat rw [if_neg (by omega)]
theorem nI_add0 (c : Nat) : nI c + 0 = nI (c + 0) := nI_add c 0
set_option maxRecDepth 10000 in
theorem c_sort (X : q_X) (d : Nat) {n : Nat} {fa : Nat → Nat → Nat} {sh : Nat → Int32} (hO : ok_bank n fa) (M : q_M) (hB : x_bank n fa sh M) : q_Ep X (d + 3) 15 [.ref 17, .ref 1] M (fun r M' => r = none ∧ M'.2 = M.2 ∧ (∀ r, r < 17 ∨ 20 < r → M'.1 r = M.1 r) ∧ M'.1 17 0 = nI n ∧ s_sorted fa (s_wn fa sh) n M') := by
  refine q_Ep.ofW rfl ?_
  show q_Wp X _ 15 (0, [some (.ref 17), some (.ref 1), none], [], M) _
  have hn := hO.1
  have key : ∀ (kz : Nat) (i : Nat) (Mi : q_M), i ≤ n → Mi.2 = M.2 → (∀ r, r < 17 ∨ 20 < r → Mi.1 r = M.1 r) → Mi.1 17 0 = nI n → s_sorted fa (s_wn fa sh) i Mi → n - i < kz → q_Wp X (d + 2) 15 (19, [some (.ref 17), some (.ref 1), some (.int (nI i))], [], Mi) (fun r M' => r = none ∧ M'.2 = M.2 ∧ (∀ r, r < 17 ∨ 20 < r → M'.1 r = M.1 r) ∧ M'.1 17 0 = nI n ∧ s_sorted fa (s_wn fa sh) n M') := by
    intro kz
    induction kz with
    | zero => intro i Mi hi hI1 hI2 hI3 hI4 hm; exact absurd hm (by omega)
    | succ kz ih =>
      intro i Mi hi hI1 hI2 hI3 hI4 hm
      refine q_Wp.gn 2 (c' := (24, [some (.ref 17), some (.ref 1), some (.int (nI i))], [.int (Mi.1 17 0), .int (nI i)], Mi)) rfl ?_
      refine q_Wp.cv (c' := (24, [some (.ref 17), some (.ref 1), some (.int (nI i))], [.int (nI n), .int (nI i)], Mi)) (by first | rw [hI3] | simp only [hI3]) ?_
      refine q_Wp.gd 0 ((nI n) ≤ (nI i)) (c1 := (45, [some (.ref 17), some (.ref 1), some (.int (nI i))], [], Mi)) (c2 := (27, [some (.ref 17), some (.ref 1), some (.int (nI i))], [], Mi)) rfl (fun g1 => ?_) (fun g1 => ?_)
      · -- t
        have g1 : n ≤ i := (nI_leI (a := n) (b := i) (by omega) (by omega)).mp g1
        exact q_Wp.rt rfl rfl (by (have e : i = n := by omega); subst e; exact ⟨rfl, hI1, hI2, hI3, hI4⟩)
      · -- f
        have g1 : ¬ n ≤ i := fun z => g1 ((nI_leI (a := n) (b := i) (by omega) (by omega)).mpr z)
        have hBi := hB.2 i (by omega)
        have hOi := hO.2 i (by omega)
        have eM : Mi.1 (3 + i) = M.1 (3 + i) := hI2 (3 + i) (by omega)
        refine q_Wp.gc 3 (mj := 7) (as := [.ref 1, .int (nI i)]) (pc := 33) (ls := [some (.ref 17), some (.ref 1), some (.int (nI i))]) (st := [.ref 17]) (M := Mi) (r1 := some (.ref (3 + i))) (M1 := Mi) rfl (c_row X d Mi (n := n) (by rw [hI2 1 (by decide)]; exact hB.1) (by omega) hn) ?_
        show q_Wp X _ 15 (33, [some (.ref 17), some (.ref 1), some (.int (nI i))], [.ref (3 + i), .ref 17], Mi) _
        refine q_Wp.gn 2 (c' := (36, [some (.ref 17), some (.ref 1), some (.int (nI i))], [.int (1 <<< ((nI i) &&& 31)), .ref (3 + i), .ref 17], Mi)) rfl ?_
        refine q_Wp.cv (c' := (36, [some (.ref 17), some (.ref 1), some (.int (nI i))], [.int (nI (2 ^ i)), .ref (3 + i), .ref 17], Mi)) (by first | rw [s_1shl i (by omega)] | simp only [s_1shl i (by omega)]) ?_
        refine q_Wp.gp 0 (mj := 17) (as := [.ref 17, .ref (3 + i), .int (nI (2 ^ i))]) (pc := 39) (ls := [some (.ref 17), some (.ref 1), some (.int (nI i))]) (st := []) (M := Mi) rfl (c_sortOne X d (k := i) (fa := fa) (wn := s_wn fa sh) (by omega) Mi (by rw [eM]; exact hBi.1 0 (by decide) (by decide)) hOi.1 (by rw [eM]; exact hBi.1 1 (by decide) (by decide)) hOi.2.1 (by rw [eM]; exact hBi.1 2 (by decide) (by decide)) hOi.2.2.1 (by rw [eM, hBi.1 3 (by decide) (by decide), hBi.2]; rfl) hI4) (fun r2 M3 hp4 => ?_)
        obtain ⟨rfl, hA4, hB4, hC4, hD4⟩ := hp4
        show q_Wp X _ 15 (39, [some (.ref 17), some (.ref 1), some (.int (nI i))], [], M3) _
        refine q_Wp.gn 0 (c' := (42, [some (.ref 17), some (.ref 1), some (.int ((nI i) + 1))], [], M3)) rfl ?_
        refine q_Wp.cv (c' := (42, [some (.ref 17), some (.ref 1), some (.int (nI (i + 1)))], [], M3)) (by first | rw [nI_1] | simp only [nI_1]) ?_
        refine q_Wp.gn 0 (c' := (19, [some (.ref 17), some (.ref 1), some (.int (nI (i + 1)))], [], M3)) rfl ?_
        exact ih (i + 1) _ (by omega) (hA4.trans hI1) (fun r hr => (hB4 r hr).trans (hI2 r hr)) (hC4.trans hI3) hD4 (by omega)
  refine q_Wp.gc 1 (mj := 16) (as := [.ref 17]) (pc := 4) (ls := [some (.ref 17), some (.ref 1), none]) (st := []) (M := M) (r1 := none) (M1 := s_clr M) rfl (c_clear X (d + 1) M) ?_
  show q_Wp X _ 15 (4, [some (.ref 17), some (.ref 1), none], [], s_clr M) _
  refine q_Wp.gn 2 (c' := (9, [some (.ref 17), some (.ref 1), none], [.int ((s_clr M).1 1 0), .ref 17], s_clr M)) rfl ?_
  refine q_Wp.cv (c' := (9, [some (.ref 17), some (.ref 1), none], [.int (nI n), .ref 17], s_clr M)) (by first | rw [s_clr_o M (r := 1) (by decide), hB.1] | simp only [s_clr_o M (r := 1) (by decide), hB.1]) ?_
  refine q_Wp.gn 1 (c' := (14, [some (.ref 17), some (.ref 1), none], [.int (if 10 < (nI n) then 10 else (nI n)), .ref 17], s_clr M)) rfl ?_
  refine q_Wp.cv (c' := (14, [some (.ref 17), some (.ref 1), none], [.int (nI n), .ref 17], s_clr M)) (by first | rw [s_min10 hn] | simp only [s_min10 hn]) ?_
  refine q_Wp.gn 2 (c' := (19, [some (.ref 17), some (.ref 1), some (.int 0)], [], q_up (s_clr M) 17 0 (nI n))) rfl ?_
  exact key (n + 1) 0 _ (by omega) rfl (fun r hr => (q_up_ne _ _ _ (by omega)).trans (s_clr_o M hr)) (q_up_s _ _ _ _) (s_sorted_0 _ _ _ _) (by omega)

/-- is a set fit, in the class's masks -/
def s_fx (n : Nat) (fa : Nat → Nat → Nat) (wn : Nat → Bool) (mo : Int32) (lo hi : Nat → Int32) (U : Nat) : Bool :=
  s_kr (nI U) mo (fun c => nI (s_mk n (fun q => decide (fa q 2 = c)))) lo hi && s_kc (nI U) (nI (s_mk n (fun q => decide (fa q 0 = 3)))) (nI (s_mk n wn)) (fun g => nI (s_mk n (fun q => decide (fa q 0 = 1) && decide (fa q 1 = g)))) (fun g => nI (s_mk n (fun q => decide (fa q 0 = 2) && decide (fa q 1 = g))))
theorem s_kr_c {x mo : Int32} {C C' lo lo' hi hi' : Nat → Int32} (h : ∀ c, c < 3 → C c = C' c) (h1 : lo = lo') (h2 : hi = hi') : s_kr x mo C lo hi = s_kr x mo C' lo' hi' := by
  unfold s_kr
  rw [h 0 (by decide), h 1 (by decide), h 2 (by decide), h1, h2]
theorem s_kc_c {x a v : Int32} {T T' F F' : Nat → Int32} (h : ∀ c, c < 3 → T c = T' c) (h' : ∀ c, c < 3 → F c = F' c) : s_kc x a v T F = s_kc x a v T' F' := by
  unfold s_kc
  rw [h 0 (by decide), h 1 (by decide), h 2 (by decide), h' 0 (by decide), h' 1 (by decide), h' 2 (by decide)]
set_option maxRecDepth 10000 in
theorem c_findAll (X : q_X) (d : Nat) {n : Nat} {fa : Nat → Nat → Nat} {sh : Nat → Int32} (hO : ok_bank n fa) (M : q_M) (hB : x_bank n fa sh M) : q_Ep X (d + 4) 8 [.ref 17, .ref 1, .ref 13] M (fun r M' => r = some (.int (nI (s_ct (2 ^ n) (s_fx n fa (s_wn fa sh) (M.1 13 0) (M.1 14) (M.1 15))))) ∧ M'.2 = M.2 ∧ (∀ r, r < 17 ∨ 21 < r → M'.1 r = M.1 r) ∧ M'.1 17 0 = nI n ∧ s_sorted fa (s_wn fa sh) n M' ∧ ∀ U, U < 2 ^ n → M'.1 21 U = q_b ((s_fx n fa (s_wn fa sh) (M.1 13 0) (M.1 14) (M.1 15)) U)) := by
  refine q_Ep.ofW rfl ?_
  show q_Wp X _ 8 (0, [some (.ref 17), some (.ref 1), some (.ref 13), none, none], [], M) _
  have hn := hO.1
  have hpp : 0 < 2 ^ n := Nat.two_pow_pos n
  refine q_Wp.gp 2 (mj := 15) (as := [.ref 17, .ref 1]) (pc := 5) (ls := [some (.ref 17), some (.ref 1), some (.ref 13), none, none]) (st := []) (M := M) rfl (c_sort X d (n := n) (fa := fa) (sh := sh) hO M hB) (fun r1 M2 hp3 => ?_)
  obtain ⟨rfl, hSa, hSb, hSc, hSd⟩ := hp3
  skip
  show q_Wp X _ 8 (5, [some (.ref 17), some (.ref 1), some (.ref 13), none, none], [], M2) _
  refine q_Wp.gn 3 (c' := (10, [some (.ref 17), some (.ref 1), some (.ref 13), some (.int 0), some (.int 0)], [], M2)) rfl ?_
  have key : ∀ (kz : Nat) (i c : Nat) (Mi : q_M), i ≤ 2 ^ n → Mi.2 = M.2 → (∀ r, r ≠ 21 → Mi.1 r = M2.1 r) → (∀ U, U < i → Mi.1 21 U = q_b ((s_fx n fa (s_wn fa sh) (M.1 13 0) (M.1 14) (M.1 15)) U)) → c = s_ct i (s_fx n fa (s_wn fa sh) (M.1 13 0) (M.1 14) (M.1 15)) → 2 ^ n - i < kz → q_Wp X (d + 3) 8 (10, [some (.ref 17), some (.ref 1), some (.ref 13), some (.int (nI c)), some (.int (nI i))], [], Mi) (fun r M' => r = some (.int (nI (s_ct (2 ^ n) (s_fx n fa (s_wn fa sh) (M.1 13 0) (M.1 14) (M.1 15))))) ∧ M'.2 = M.2 ∧ (∀ r, r < 17 ∨ 21 < r → M'.1 r = M.1 r) ∧ M'.1 17 0 = nI n ∧ s_sorted fa (s_wn fa sh) n M' ∧ ∀ U, U < 2 ^ n → M'.1 21 U = q_b ((s_fx n fa (s_wn fa sh) (M.1 13 0) (M.1 14) (M.1 15)) U)) := by
    intro kz
    induction kz with
    | zero => intro i c Mi hi hI1 hI2 hI3 hc hm; exact absurd hm (by omega)
    | succ kz ih =>
      intro i c Mi hi hI1 hI2 hI3 hc hm
      have hpn := s_pw hn
      have hcl := s_ct_le (s_fx n fa (s_wn fa sh) (M.1 13 0) (M.1 14) (M.1 15)) i
      have hTz : Mi.1 17 0 = nI n := by rw [hI2 17 (by decide)]; exact hSc
      refine q_Wp.gc 2 (mj := 12) (as := [.ref 17]) (pc := 16) (ls := [some (.ref 17), some (.ref 1), some (.ref 13), some (.int (nI c)), some (.int (nI i))]) (st := [.int (nI i)]) (M := Mi) (r1 := some (.int (nI (2 ^ n)))) (M1 := Mi) rfl (c_total X (d + 2) (n := n) hn Mi hTz) ?_
      show q_Wp X _ 8 (16, [some (.ref 17), some (.ref 1), some (.ref 13), some (.int (nI c)), some (.int (nI i))], [.int (nI (2 ^ n)), .int (nI i)], Mi) _
      refine q_Wp.gd 0 ((nI (2 ^ n)) ≤ (nI i)) (c1 := (69, [some (.ref 17), some (.ref 1), some (.ref 13), some (.int (nI c)), some (.int (nI i))], [], Mi)) (c2 := (19, [some (.ref 17), some (.ref 1), some (.ref 13), some (.int (nI c)), some (.int (nI i))], [], Mi)) rfl (fun g1 => ?_) (fun g1 => ?_)
      · -- t
        have g1 : (2 ^ n) ≤ i := (nI_leI (a := (2 ^ n)) (b := i) (by omega) (by omega)).mp g1
        refine q_Wp.gn 0 (c' := (70, [some (.ref 17), some (.ref 1), some (.ref 13), some (.int (nI c)), some (.int (nI i))], [.int (nI c)], Mi)) rfl ?_
        exact q_Wp.rt rfl rfl (by (have e : i = 2 ^ n := by omega); subst e; rw [hc]; exact ⟨rfl, hI1, fun r hr => (hI2 r (by omega)).trans (hSb r (by omega)), hTz, hSd.keep (hI2 17 (by decide)) (hI2 18 (by decide)) (hI2 19 (by decide)) (hI2 20 (by decide)), hI3⟩)
      · -- f
        have g1 : ¬ (2 ^ n) ≤ i := fun z => g1 ((nI_leI (a := (2 ^ n)) (b := i) (by omega) (by omega)).mpr z)
        have hkr : s_kr (nI i) (Mi.1 13 0) (Mi.1 20) (Mi.1 14) (Mi.1 15) = s_kr (nI i) (M.1 13 0) (fun c => nI (s_mk n (fun q => decide (fa q 2 = c)))) (M.1 14) (M.1 15) := by rw [hI2 13 (by decide), hI2 14 (by decide), hI2 15 (by decide), hI2 20 (by decide), hSb 13 (by decide)]; exact s_kr_c hSd.2.2.2.2 (hSb 14 (by decide)) (hSb 15 (by decide))
        have hkc : s_kc (nI i) (Mi.1 17 1) (Mi.1 17 2) (Mi.1 18) (Mi.1 19) = s_kc (nI i) (nI (s_mk n (fun q => decide (fa q 0 = 3)))) (nI (s_mk n (s_wn fa sh))) (fun g => nI (s_mk n (fun q => decide (fa q 0 = 1) && decide (fa q 1 = g)))) (fun g => nI (s_mk n (fun q => decide (fa q 0 = 2) && decide (fa q 1 = g)))) := by rw [hI2 17 (by decide), hI2 18 (by decide), hI2 19 (by decide), hSd.1, hSd.2.1]; exact s_kc_c hSd.2.2.1 hSd.2.2.2.1
        have hfx : (s_fx n fa (s_wn fa sh) (M.1 13 0) (M.1 14) (M.1 15)) i = (s_kr (nI i) (Mi.1 13 0) (Mi.1 20) (Mi.1 14) (Mi.1 15) && s_kc (nI i) (Mi.1 17 1) (Mi.1 17 2) (Mi.1 18) (Mi.1 19)) := by rw [hkr, hkc]; rfl
        refine q_Wp.gc 6 (mj := 18) (as := [.ref 17, .int (nI i), .ref 13]) (pc := 32) (ls := [some (.ref 17), some (.ref 1), some (.ref 13), some (.int (nI c)), some (.int (nI i))]) (st := [.int (nI i), .ref 21]) (M := Mi) (r1 := some (.int (q_b (s_kr (nI i) (Mi.1 13 0) (Mi.1 20) (Mi.1 14) (Mi.1 15))))) (M1 := Mi) rfl (c_keepsRules X (d + 1) (nI i) Mi) ?_
        show q_Wp X _ 8 (32, [some (.ref 17), some (.ref 1), some (.ref 13), some (.int (nI c)), some (.int (nI i))], [.int (q_b (s_kr (nI i) (Mi.1 13 0) (Mi.1 20) (Mi.1 14) (Mi.1 15))), .int (nI i), .ref 21], Mi) _
        refine q_Wp.ge0 0 (b := (s_kr (nI i) (Mi.1 13 0) (Mi.1 20) (Mi.1 14) (Mi.1 15))) (c1 := (48, [some (.ref 17), some (.ref 1), some (.ref 13), some (.int (nI c)), some (.int (nI i))], [.int (nI i), .ref 21], Mi)) (c2 := (35, [some (.ref 17), some (.ref 1), some (.ref 13), some (.int (nI c)), some (.int (nI i))], [.int (nI i), .ref 21], Mi)) rfl (fun g2 => ?_) (fun g2 => ?_)
        · -- ft
          refine q_Wp.gn 0 (c' := (49, [some (.ref 17), some (.ref 1), some (.ref 13), some (.int (nI c)), some (.int (nI i))], [.int 0, .int (nI i), .ref 21], Mi)) rfl ?_
          refine q_Wp.zst (i := i) rfl (rfl) rfl (by omega) (by decide) (by decide) ?_
          show q_Wp X _ 8 (50, [some (.ref 17), some (.ref 1), some (.ref 13), some (.int (nI c)), some (.int (nI i))], [], q_up Mi 21 i 0) _
          refine q_Wp.gn 3 (c' := (57, [some (.ref 17), some (.ref 1), some (.ref 13), some (.int (nI c)), some (.int (nI i))], [.int (nI i), .ref 21, .int (nI c)], q_up Mi 21 i 0)) rfl ?_
          refine q_Wp.zld (i := i) rfl (rfl) rfl (by omega) (by decide) ?_
          show q_Wp X _ 8 (58, [some (.ref 17), some (.ref 1), some (.ref 13), some (.int (nI c)), some (.int (nI i))], [.int ((q_up Mi 21 i 0).1 21 i), .int (nI c)], q_up Mi 21 i 0) _
          refine q_Wp.cv (c' := (58, [some (.ref 17), some (.ref 1), some (.ref 13), some (.int (nI c)), some (.int (nI i))], [.int 0, .int (nI c)], q_up Mi 21 i 0)) (by first | rw [q_up_s Mi 21 i 0] | simp only [q_up_s Mi 21 i 0]) ?_
          refine q_Wp.gc 0 (mj := 57) (as := [.int 0]) (pc := 61) (ls := [some (.ref 17), some (.ref 1), some (.ref 13), some (.int (nI c)), some (.int (nI i))]) (st := [.int (nI c)]) (M := q_up Mi 21 i 0) (r1 := some (.int 0)) (M1 := q_up Mi 21 i 0) rfl (c_asNumber X (d + 2) false (q_up Mi 21 i 0)) ?_
          show q_Wp X _ 8 (61, [some (.ref 17), some (.ref 1), some (.ref 13), some (.int (nI c)), some (.int (nI i))], [.int 0, .int (nI c)], q_up Mi 21 i 0) _
          refine q_Wp.gn 0 (c' := (62, [some (.ref 17), some (.ref 1), some (.ref 13), some (.int (nI c)), some (.int (nI i))], [.int ((nI c) + 0)], q_up Mi 21 i 0)) rfl ?_
          refine q_Wp.cv (c' := (62, [some (.ref 17), some (.ref 1), some (.ref 13), some (.int (nI c)), some (.int (nI i))], [.int (nI (c + 0))], q_up Mi 21 i 0)) (by first | rw [nI_add0] | simp only [nI_add0]) ?_
          refine q_Wp.gn 1 (c' := (66, [some (.ref 17), some (.ref 1), some (.ref 13), some (.int (nI (c + 0))), some (.int ((nI i) + 1))], [], q_up Mi 21 i 0)) rfl ?_
          refine q_Wp.cv (c' := (66, [some (.ref 17), some (.ref 1), some (.ref 13), some (.int (nI (c + 0))), some (.int (nI (i + 1)))], [], q_up Mi 21 i 0)) (by first | rw [nI_1] | simp only [nI_1]) ?_
          refine q_Wp.gn 0 (c' := (10, [some (.ref 17), some (.ref 1), some (.ref 13), some (.int (nI (c + 0))), some (.int (nI (i + 1)))], [], q_up Mi 21 i 0)) rfl ?_
          have hf : (s_fx n fa (s_wn fa sh) (M.1 13 0) (M.1 14) (M.1 15)) i = false := by rw [hfx, g2, Bool.false_and]
          refine ih (i + 1) _ _ (by omega) hI1 (fun r hr => (q_up_ne _ _ _ hr).trans (hI2 r hr)) (fun U hU => ?_) (by rw [s_ct, hf, hc]; rfl) (by omega)
          rcases Nat.lt_succ_iff_lt_or_eq.mp hU with h | h
          · rw [q_up_o _ _ _ (by omega)]; exact hI3 U h
          · subst h; rw [q_up_s, hf]; rfl
        · -- ff
          refine q_Wp.gc 2 (mj := 19) (as := [.ref 17, .int (nI i)]) (pc := 41) (ls := [some (.ref 17), some (.ref 1), some (.ref 13), some (.int (nI c)), some (.int (nI i))]) (st := [.int (nI i), .ref 21]) (M := Mi) (r1 := some (.int (q_b (s_kc (nI i) (Mi.1 17 1) (Mi.1 17 2) (Mi.1 18) (Mi.1 19))))) (M1 := Mi) rfl (c_keepsCompany X (d + 1) (nI i) Mi) ?_
          show q_Wp X _ 8 (41, [some (.ref 17), some (.ref 1), some (.ref 13), some (.int (nI c)), some (.int (nI i))], [.int (q_b (s_kc (nI i) (Mi.1 17 1) (Mi.1 17 2) (Mi.1 18) (Mi.1 19))), .int (nI i), .ref 21], Mi) _
          refine q_Wp.ge0 0 (b := (s_kc (nI i) (Mi.1 17 1) (Mi.1 17 2) (Mi.1 18) (Mi.1 19))) (c1 := (48, [some (.ref 17), some (.ref 1), some (.ref 13), some (.int (nI c)), some (.int (nI i))], [.int (nI i), .ref 21], Mi)) (c2 := (44, [some (.ref 17), some (.ref 1), some (.ref 13), some (.int (nI c)), some (.int (nI i))], [.int (nI i), .ref 21], Mi)) rfl (fun g3 => ?_) (fun g3 => ?_)
          · -- fft
            refine q_Wp.gn 0 (c' := (49, [some (.ref 17), some (.ref 1), some (.ref 13), some (.int (nI c)), some (.int (nI i))], [.int 0, .int (nI i), .ref 21], Mi)) rfl ?_
            refine q_Wp.zst (i := i) rfl (rfl) rfl (by omega) (by decide) (by decide) ?_
            show q_Wp X _ 8 (50, [some (.ref 17), some (.ref 1), some (.ref 13), some (.int (nI c)), some (.int (nI i))], [], q_up Mi 21 i 0) _
            refine q_Wp.gn 3 (c' := (57, [some (.ref 17), some (.ref 1), some (.ref 13), some (.int (nI c)), some (.int (nI i))], [.int (nI i), .ref 21, .int (nI c)], q_up Mi 21 i 0)) rfl ?_
            refine q_Wp.zld (i := i) rfl (rfl) rfl (by omega) (by decide) ?_
            show q_Wp X _ 8 (58, [some (.ref 17), some (.ref 1), some (.ref 13), some (.int (nI c)), some (.int (nI i))], [.int ((q_up Mi 21 i 0).1 21 i), .int (nI c)], q_up Mi 21 i 0) _
            refine q_Wp.cv (c' := (58, [some (.ref 17), some (.ref 1), some (.ref 13), some (.int (nI c)), some (.int (nI i))], [.int 0, .int (nI c)], q_up Mi 21 i 0)) (by first | rw [q_up_s Mi 21 i 0] | simp only [q_up_s Mi 21 i 0]) ?_
            refine q_Wp.gc 0 (mj := 57) (as := [.int 0]) (pc := 61) (ls := [some (.ref 17), some (.ref 1), some (.ref 13), some (.int (nI c)), some (.int (nI i))]) (st := [.int (nI c)]) (M := q_up Mi 21 i 0) (r1 := some (.int 0)) (M1 := q_up Mi 21 i 0) rfl (c_asNumber X (d + 2) false (q_up Mi 21 i 0)) ?_
            show q_Wp X _ 8 (61, [some (.ref 17), some (.ref 1), some (.ref 13), some (.int (nI c)), some (.int (nI i))], [.int 0, .int (nI c)], q_up Mi 21 i 0) _
            refine q_Wp.gn 0 (c' := (62, [some (.ref 17), some (.ref 1), some (.ref 13), some (.int (nI c)), some (.int (nI i))], [.int ((nI c) + 0)], q_up Mi 21 i 0)) rfl ?_
            refine q_Wp.cv (c' := (62, [some (.ref 17), some (.ref 1), some (.ref 13), some (.int (nI c)), some (.int (nI i))], [.int (nI (c + 0))], q_up Mi 21 i 0)) (by first | rw [nI_add0] | simp only [nI_add0]) ?_
            refine q_Wp.gn 1 (c' := (66, [some (.ref 17), some (.ref 1), some (.ref 13), some (.int (nI (c + 0))), some (.int ((nI i) + 1))], [], q_up Mi 21 i 0)) rfl ?_
            refine q_Wp.cv (c' := (66, [some (.ref 17), some (.ref 1), some (.ref 13), some (.int (nI (c + 0))), some (.int (nI (i + 1)))], [], q_up Mi 21 i 0)) (by first | rw [nI_1] | simp only [nI_1]) ?_
            refine q_Wp.gn 0 (c' := (10, [some (.ref 17), some (.ref 1), some (.ref 13), some (.int (nI (c + 0))), some (.int (nI (i + 1)))], [], q_up Mi 21 i 0)) rfl ?_
            have hf : (s_fx n fa (s_wn fa sh) (M.1 13 0) (M.1 14) (M.1 15)) i = false := by rw [hfx, g3, Bool.and_false]
            refine ih (i + 1) _ _ (by omega) hI1 (fun r hr => (q_up_ne _ _ _ hr).trans (hI2 r hr)) (fun U hU => ?_) (by rw [s_ct, hf, hc]; rfl) (by omega)
            rcases Nat.lt_succ_iff_lt_or_eq.mp hU with h | h
            · rw [q_up_o _ _ _ (by omega)]; exact hI3 U h
            · subst h; rw [q_up_s, hf]; rfl
          · -- fff
            refine q_Wp.gn 1 (c' := (49, [some (.ref 17), some (.ref 1), some (.ref 13), some (.int (nI c)), some (.int (nI i))], [.int 1, .int (nI i), .ref 21], Mi)) rfl ?_
            refine q_Wp.zst (i := i) rfl (rfl) rfl (by omega) (by decide) (by decide) ?_
            show q_Wp X _ 8 (50, [some (.ref 17), some (.ref 1), some (.ref 13), some (.int (nI c)), some (.int (nI i))], [], q_up Mi 21 i 1) _
            refine q_Wp.gn 3 (c' := (57, [some (.ref 17), some (.ref 1), some (.ref 13), some (.int (nI c)), some (.int (nI i))], [.int (nI i), .ref 21, .int (nI c)], q_up Mi 21 i 1)) rfl ?_
            refine q_Wp.zld (i := i) rfl (rfl) rfl (by omega) (by decide) ?_
            show q_Wp X _ 8 (58, [some (.ref 17), some (.ref 1), some (.ref 13), some (.int (nI c)), some (.int (nI i))], [.int ((q_up Mi 21 i 1).1 21 i), .int (nI c)], q_up Mi 21 i 1) _
            refine q_Wp.cv (c' := (58, [some (.ref 17), some (.ref 1), some (.ref 13), some (.int (nI c)), some (.int (nI i))], [.int 1, .int (nI c)], q_up Mi 21 i 1)) (by first | rw [q_up_s Mi 21 i 1] | simp only [q_up_s Mi 21 i 1]) ?_
            refine q_Wp.gc 0 (mj := 57) (as := [.int 1]) (pc := 61) (ls := [some (.ref 17), some (.ref 1), some (.ref 13), some (.int (nI c)), some (.int (nI i))]) (st := [.int (nI c)]) (M := q_up Mi 21 i 1) (r1 := some (.int 1)) (M1 := q_up Mi 21 i 1) rfl (c_asNumber X (d + 2) true (q_up Mi 21 i 1)) ?_
            show q_Wp X _ 8 (61, [some (.ref 17), some (.ref 1), some (.ref 13), some (.int (nI c)), some (.int (nI i))], [.int 1, .int (nI c)], q_up Mi 21 i 1) _
            refine q_Wp.gn 0 (c' := (62, [some (.ref 17), some (.ref 1), some (.ref 13), some (.int (nI c)), some (.int (nI i))], [.int ((nI c) + 1)], q_up Mi 21 i 1)) rfl ?_
            refine q_Wp.cv (c' := (62, [some (.ref 17), some (.ref 1), some (.ref 13), some (.int (nI c)), some (.int (nI i))], [.int (nI (c + 1))], q_up Mi 21 i 1)) (by first | rw [nI_1] | simp only [nI_1]) ?_
            refine q_Wp.gn 1 (c' := (66, [some (.ref 17), some (.ref 1), some (.ref 13), some (.int (nI (c + 1))), some (.int ((nI i) + 1))], [], q_up Mi 21 i 1)) rfl ?_
            refine q_Wp.cv (c' := (66, [some (.ref 17), some (.ref 1), some (.ref 13), some (.int (nI (c + 1))), some (.int (nI (i + 1)))], [], q_up Mi 21 i 1)) (by first | rw [nI_1] | simp only [nI_1]) ?_
            refine q_Wp.gn 0 (c' := (10, [some (.ref 17), some (.ref 1), some (.ref 13), some (.int (nI (c + 1))), some (.int (nI (i + 1)))], [], q_up Mi 21 i 1)) rfl ?_
            have hf : (s_fx n fa (s_wn fa sh) (M.1 13 0) (M.1 14) (M.1 15)) i = true := by rw [hfx, g2, g3]; rfl
            refine ih (i + 1) _ _ (by omega) hI1 (fun r hr => (q_up_ne _ _ _ hr).trans (hI2 r hr)) (fun U hU => ?_) (by rw [s_ct, hf, hc]; rfl) (by omega)
            rcases Nat.lt_succ_iff_lt_or_eq.mp hU with h | h
            · rw [q_up_o _ _ _ (by omega)]; exact hI3 U h
            · subst h; rw [q_up_s, hf]; rfl
  exact key (2 ^ n + 1) 0 0 _ (by omega) hSa (fun r hr => rfl) (fun U hU => absurd hU (by omega)) rfl (by omega)

theorem s_bit (n j : Nat) : n &&& 2 ^ j = 0 ↔ n.testBit j = false := by
  constructor
  · intro h
    have h1 : (n &&& 2 ^ j).testBit j = false := by rw [h]; simp
    rw [Nat.testBit_and] at h1
    simpa using h1
  · intro h
    apply Nat.eq_of_testBit_eq
    intro i
    rw [Nat.testBit_and, Nat.testBit_two_pow, Nat.zero_testBit]
    by_cases e : j = i
    · subst e; simp [h]
    · simp [e]
theorem s_any_yes {p : Nat → Bool} {i : Nat} (hp : p i = true) : ∀ {n : Nat}, i < n → s_any n p = true
  | 0, h => absurd h (by omega)
  | n + 1, h => by
    rw [s_any]
    by_cases e : i = n
    · subst e; rw [hp, Bool.or_true]
    · rw [s_any_yes hp (show i < n by omega), Bool.true_or]
theorem s_orlt {S i n : Nat} (hS : S < 2 ^ n) (hi : i < n) : S ||| 2 ^ i < 2 ^ n := Nat.or_lt_two_pow hS (Nat.pow_lt_pow_right (by decide) hi)
theorem s_orgt {S i : Nat} (h : S.testBit i = false) : S < S ||| 2 ^ i := by
  rcases Nat.lt_or_ge S (S ||| 2 ^ i) with h1 | h1
  · exact h1
  · have h2 : S ≤ S ||| 2 ^ i := Nat.left_le_or
    have h3 : S ||| 2 ^ i = S := by omega
    have h4 : (S ||| 2 ^ i).testBit i = true := by simp
    rw [h3, h] at h4
    cases h4
theorem s_isIn_b {K q : Nat} (hq : q < 31) : s_isIn (nI K) (nI q) = K.testBit q := by
  unfold s_isIn
  rw [s_1shl q hq, s_and]
  by_cases h : K &&& 2 ^ q = 0
  · rw [h, (s_bit K q).mp h]; rfl
  · cases hz : K.testBit q with
    | false => exact absurd ((s_bit K q).mpr hz) h
    | true =>
      have h2 : ¬ nI (K &&& 2 ^ q) = 0 := by
        have h3 : K &&& 2 ^ q ≤ 2 ^ q := Nat.and_le_right
        have h4 : 2 ^ q < 2 ^ 31 := Nat.pow_lt_pow_right (by decide) hq
        exact fun z => h ((nI_eq (a := K &&& 2 ^ q) (b := 0) (by omega) (by decide)).mp z)
      simp [h2]
def s_nb (cn : Nat → Bool) (S i : Nat) : Bool := !S.testBit i && cn (S ||| 2 ^ i)
set_option maxRecDepth 10000 in
theorem c_isPartOfBigger (X : q_X) (d : Nat) {n S : Nat} {cn : Nat → Bool} (hn : n ≤ 10) (hS : S < 2 ^ n) (M : q_M) (hsz : M.1 17 0 = nI n) (hT : ∀ i, i < n → S.testBit i = false → M.1 22 (S ||| 2 ^ i) = q_b (cn (S ||| 2 ^ i))) : q_Ev X (d + 3) 14 [.ref 17, .int (nI S)] M (some (.int (q_b (s_any n (s_nb cn S))))) (M) := by
  refine q_Ev.ofW rfl ?_
  show q_Wp X _ 14 (0, [some (.ref 17), some (.int (nI S)), none], [], M) _
  have hpn := s_pw hn
  have key : ∀ (kz : Nat) (i : Nat), i ≤ n → s_any i (s_nb cn S) = false → n - i < kz → q_Wp X (d + 2) 14 (2, [some (.ref 17), some (.int (nI S)), some (.int (nI i))], [], M) (fun r M' => r = some (.int (q_b (s_any n (s_nb cn S)))) ∧ M' = M) := by
    intro kz
    induction kz with
    | zero => intro i hi hA hm; exact absurd hm (by omega)
    | succ kz ih =>
      intro i hi hA hm
      have hpi : 2 ^ i ≤ 2 ^ n := Nat.pow_le_pow_right (by decide) hi
      refine q_Wp.gn 2 (c' := (7, [some (.ref 17), some (.int (nI S)), some (.int (nI i))], [.int (M.1 17 0), .int (nI i)], M)) rfl ?_
      refine q_Wp.cv (c' := (7, [some (.ref 17), some (.int (nI S)), some (.int (nI i))], [.int (nI n), .int (nI i)], M)) (by first | rw [hsz] | simp only [hsz]) ?_
      refine q_Wp.gd 0 ((nI n) ≤ (nI i)) (c1 := (38, [some (.ref 17), some (.int (nI S)), some (.int (nI i))], [], M)) (c2 := (10, [some (.ref 17), some (.int (nI S)), some (.int (nI i))], [], M)) rfl (fun g1 => ?_) (fun g1 => ?_)
      · -- t
        have g1 : n ≤ i := (nI_leI (a := n) (b := i) (by omega) (by omega)).mp g1
        have e : i = n := by omega
        refine q_Wp.gn 0 (c' := (39, [some (.ref 17), some (.int (nI S)), some (.int (nI i))], [.int 0], M)) rfl ?_
        exact q_Wp.rt rfl rfl ⟨by rw [← e, hA]; rfl, by rfl⟩
      · -- f
        have g1 : ¬ n ≤ i := fun z => g1 ((nI_leI (a := n) (b := i) (by omega) (by omega)).mpr z)
        have hin : i < n := by omega
        refine q_Wp.gc 2 (mj := 58) (as := [.int (nI S), .int (nI i)]) (pc := 15) (ls := [some (.ref 17), some (.int (nI S)), some (.int (nI i))]) (st := []) (M := M) (r1 := some (.int (q_b (s_isIn (nI S) (nI i))))) (M1 := M) rfl (c_isIn X (d + 1) (nI S) (nI i) M) ?_
        show q_Wp X _ 14 (15, [some (.ref 17), some (.int (nI S)), some (.int (nI i))], [.int (q_b (s_isIn (nI S) (nI i)))], M) _
        refine q_Wp.gn0 0 (b := (s_isIn (nI S) (nI i))) (c1 := (32, [some (.ref 17), some (.int (nI S)), some (.int (nI i))], [], M)) (c2 := (18, [some (.ref 17), some (.int (nI S)), some (.int (nI i))], [], M)) rfl (fun g2 => ?_) (fun g2 => ?_)
        · -- ft
          have htb : S.testBit i = true := (s_isIn_b (K := S) (q := i) (by omega)).symm.trans g2
          refine q_Wp.gn 0 (c' := (35, [some (.ref 17), some (.int (nI S)), some (.int ((nI i) + 1))], [], M)) rfl ?_
          refine q_Wp.cv (c' := (35, [some (.ref 17), some (.int (nI S)), some (.int (nI (i + 1)))], [], M)) (by first | rw [nI_1] | simp only [nI_1]) ?_
          refine q_Wp.gn 0 (c' := (2, [some (.ref 17), some (.int (nI S)), some (.int (nI (i + 1)))], [], M)) rfl ?_
          exact ih (i + 1) (by omega) (by rw [s_any, hA, s_nb, htb]; rfl) (by omega)
        · -- ff
          have htb : S.testBit i = false := (s_isIn_b (K := S) (q := i) (by omega)).symm.trans g2
          refine q_Wp.gn 4 (c' := (23, [some (.ref 17), some (.int (nI S)), some (.int (nI i))], [.int (1 <<< ((nI i) &&& 31)), .int (nI S), .ref 17], M)) rfl ?_
          refine q_Wp.cv (c' := (23, [some (.ref 17), some (.int (nI S)), some (.int (nI i))], [.int (nI (2 ^ i)), .int (nI S), .ref 17], M)) (by first | rw [s_1shl i (by omega)] | simp only [s_1shl i (by omega)]) ?_
          refine q_Wp.gn 0 (c' := (24, [some (.ref 17), some (.int (nI S)), some (.int (nI i))], [.int ((nI S) ||| (nI (2 ^ i))), .ref 17], M)) rfl ?_
          refine q_Wp.cv (c' := (24, [some (.ref 17), some (.int (nI S)), some (.int (nI i))], [.int (nI (S ||| 2 ^ i)), .ref 17], M)) (by first | rw [s_or] | simp only [s_or]) ?_
          refine q_Wp.gc 0 (mj := 13) (as := [.ref 17, .int (nI (S ||| 2 ^ i))]) (pc := 27) (ls := [some (.ref 17), some (.int (nI S)), some (.int (nI i))]) (st := []) (M := M) (r1 := some (.int (q_b (cn (S ||| 2 ^ i))))) (M1 := M) rfl (c_isPartOfFit X d (n := n) (S := (S ||| 2 ^ i)) hn (s_orlt hS hin) M hsz (hT i hin htb)) ?_
          show q_Wp X _ 14 (27, [some (.ref 17), some (.int (nI S)), some (.int (nI i))], [.int (q_b (cn (S ||| 2 ^ i)))], M) _
          refine q_Wp.ge0 0 (b := (cn (S ||| 2 ^ i))) (c1 := (32, [some (.ref 17), some (.int (nI S)), some (.int (nI i))], [], M)) (c2 := (30, [some (.ref 17), some (.int (nI S)), some (.int (nI i))], [], M)) rfl (fun g3 => ?_) (fun g3 => ?_)
          · -- fft
            refine q_Wp.gn 0 (c' := (35, [some (.ref 17), some (.int (nI S)), some (.int ((nI i) + 1))], [], M)) rfl ?_
            refine q_Wp.cv (c' := (35, [some (.ref 17), some (.int (nI S)), some (.int (nI (i + 1)))], [], M)) (by first | rw [nI_1] | simp only [nI_1]) ?_
            refine q_Wp.gn 0 (c' := (2, [some (.ref 17), some (.int (nI S)), some (.int (nI (i + 1)))], [], M)) rfl ?_
            exact ih (i + 1) (by omega) (by rw [s_any, hA, s_nb, htb, g3]; rfl) (by omega)
          · -- fff
            refine q_Wp.gn 0 (c' := (31, [some (.ref 17), some (.int (nI S)), some (.int (nI i))], [.int 1], M)) rfl ?_
            exact q_Wp.rt rfl rfl ⟨by rw [s_any_yes (i := i) (by rw [s_nb, htb]; exact g3) hin]; rfl, by rfl⟩
  refine q_Wp.gn 1 (c' := (2, [some (.ref 17), some (.int (nI S)), some (.int 0)], [], M)) rfl ?_
  exact key (n + 1) 0 (by omega) rfl (by omega)

/-- the table of parts, from the greatest set down -/
def s_tb (ft : Nat → Bool) (n : Nat) : Nat → Nat → Bool
  | 0, _ => false
  | j + 1, U => if U = 2 ^ n - 1 - j then ft U || s_any n (s_nb (s_tb ft n j) U) else s_tb ft n j U
