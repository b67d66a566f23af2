/-! The law: a case a call, both sides answer alike (by program: wip/whole/c41.py) -/
theorem law_i (i j : Nat) : nI i + nI j = nI (i + j) := nI_add i j
set_option maxRecDepth 10000 in
theorem law_c0 (X : q_X) (hL : X.2 ≤ 3072) (d : Nat) {i : Nat} (hi : i + 6 ≤ X.2) {σ : q_S} {M : q_M} {P : Option Value → q_M → Prop} (hO : ok_S σ) (hx : x_S σ M) (hm : m_S σ M) (kk : ∀ (σ1 : q_S) (M1 : q_M), ok_S σ1 → x_S σ1 M1 → m_S σ1 M1 → q_Wp X (d + 12) 112 (701, [some (.ref 49), some (.ref 0), some (.ref 34), some (.int (nI i))], [], M1) P) : q_Wp X (d + 12) 112 (132, [some (.ref 49), some (.ref 0), some (.ref 34), some (.int (nI i))], [], M) P := by
  refine q_Wp.gn 4 (c' := (137, [some (.ref 49), some (.ref 0), some (.ref 34), some (.int (nI i))], [.int (nI i + 1), .ref 49, .ref 0], M)) rfl ?_
  refine q_Wp.cv (c' := (137, [some (.ref 49), some (.ref 0), some (.ref 34), some (.int (nI i))], [.int (nI (i + 1)), .ref 49, .ref 0], M)) (by rw [show nI i + 1 = nI (i + 1) from law_i i 1]) ?_
  refine q_Wp.ilx rfl rfl rfl (by omega) (by omega) rfl ?_
  show q_Wp X _ 112 (138, [some (.ref 49), some (.ref 0), some (.ref 34), some (.int (nI i))], [.int (X.1 (i + 1)), .ref 0], M) _
  refine q_Wp.gn 3 (c' := (142, [some (.ref 49), some (.ref 0), some (.ref 34), some (.int (nI i))], [.int (nI i + 2), .ref 49, .int (X.1 (i + 1)), .ref 0], M)) rfl ?_
  refine q_Wp.cv (c' := (142, [some (.ref 49), some (.ref 0), some (.ref 34), some (.int (nI i))], [.int (nI (i + 2)), .ref 49, .int (X.1 (i + 1)), .ref 0], M)) (by rw [show nI i + 2 = nI (i + 2) from law_i i 2]) ?_
  refine q_Wp.ilx rfl rfl rfl (by omega) (by omega) rfl ?_
  show q_Wp X _ 112 (143, [some (.ref 49), some (.ref 0), some (.ref 34), some (.int (nI i))], [.int (X.1 (i + 2)), .int (X.1 (i + 1)), .ref 0], M) _
  refine q_Wp.gn 3 (c' := (147, [some (.ref 49), some (.ref 0), some (.ref 34), some (.int (nI i))], [.int (nI i + 3), .ref 49, .int (X.1 (i + 2)), .int (X.1 (i + 1)), .ref 0], M)) rfl ?_
  refine q_Wp.cv (c' := (147, [some (.ref 49), some (.ref 0), some (.ref 34), some (.int (nI i))], [.int (nI (i + 3)), .ref 49, .int (X.1 (i + 2)), .int (X.1 (i + 1)), .ref 0], M)) (by rw [show nI i + 3 = nI (i + 3) from law_i i 3]) ?_
  refine q_Wp.ilx rfl rfl rfl (by omega) (by omega) rfl ?_
  show q_Wp X _ 112 (148, [some (.ref 49), some (.ref 0), some (.ref 34), some (.int (nI i))], [.int (X.1 (i + 3)), .int (X.1 (i + 2)), .int (X.1 (i + 1)), .ref 0], M) _
  refine q_Wp.gn 3 (c' := (152, [some (.ref 49), some (.ref 0), some (.ref 34), some (.int (nI i))], [.int (nI i + 4), .ref 49, .int (X.1 (i + 3)), .int (X.1 (i + 2)), .int (X.1 (i + 1)), .ref 0], M)) rfl ?_
  refine q_Wp.cv (c' := (152, [some (.ref 49), some (.ref 0), some (.ref 34), some (.int (nI i))], [.int (nI (i + 4)), .ref 49, .int (X.1 (i + 3)), .int (X.1 (i + 2)), .int (X.1 (i + 1)), .ref 0], M)) (by rw [show nI i + 4 = nI (i + 4) from law_i i 4]) ?_
  refine q_Wp.ilx rfl rfl rfl (by omega) (by omega) rfl ?_
  show q_Wp X _ 112 (153, [some (.ref 49), some (.ref 0), some (.ref 34), some (.int (nI i))], [.int (X.1 (i + 4)), .int (X.1 (i + 3)), .int (X.1 (i + 2)), .int (X.1 (i + 1)), .ref 0], M) _
  refine q_Wp.gn 3 (c' := (157, [some (.ref 49), some (.ref 0), some (.ref 34), some (.int (nI i))], [.int (nI i + 5), .ref 49, .int (X.1 (i + 4)), .int (X.1 (i + 3)), .int (X.1 (i + 2)), .int (X.1 (i + 1)), .ref 0], M)) rfl ?_
  refine q_Wp.cv (c' := (157, [some (.ref 49), some (.ref 0), some (.ref 34), some (.int (nI i))], [.int (nI (i + 5)), .ref 49, .int (X.1 (i + 4)), .int (X.1 (i + 3)), .int (X.1 (i + 2)), .int (X.1 (i + 1)), .ref 0], M)) (by rw [show nI i + 5 = nI (i + 5) from law_i i 5]) ?_
  refine q_Wp.ilx rfl rfl rfl (by omega) (by omega) rfl ?_
  show q_Wp X _ 112 (158, [some (.ref 49), some (.ref 0), some (.ref 34), some (.int (nI i))], [.int (X.1 (i + 5)), .int (X.1 (i + 4)), .int (X.1 (i + 3)), .int (X.1 (i + 2)), .int (X.1 (i + 1)), .ref 0], M) _
  obtain ⟨v, σ1, hO1, hx1, hm1⟩ := pr_question (X := X) hO (X.1 (i + 1)) (X.1 (i + 2)) (X.1 (i + 3)) (X.1 (i + 4)) (X.1 (i + 5))
  refine q_Wp.gp 0 (mj := 28) (as := [.ref 0, .int (X.1 (i + 1)), .int (X.1 (i + 2)), .int (X.1 (i + 3)), .int (X.1 (i + 4)), .int (X.1 (i + 5))]) (pc := 161) (ls := [some (.ref 49), some (.ref 0), some (.ref 34), some (.int (nI i))]) (st := []) (M := M) rfl (hx1 d M hx) (fun r1 M1 z => ?_)
  obtain ⟨z1, hx2, z3⟩ := z
  subst z1
  have hm2 := hm.keep hO z3
  show q_Wp X _ 112 (161, [some (.ref 49), some (.ref 0), some (.ref 34), some (.int (nI i))], [.int v], M1) _
  refine q_Wp.gn 4 (c' := (166, [some (.ref 49), some (.ref 0), some (.ref 34), some (.int (nI i))], [.int (nI i + 1), .ref 49, .ref 34, .int v], M1)) rfl ?_
  refine q_Wp.cv (c' := (166, [some (.ref 49), some (.ref 0), some (.ref 34), some (.int (nI i))], [.int (nI (i + 1)), .ref 49, .ref 34, .int v], M1)) (by rw [show nI i + 1 = nI (i + 1) from law_i i 1]) ?_
  refine q_Wp.ilx rfl rfl rfl (by omega) (by omega) rfl ?_
  show q_Wp X _ 112 (167, [some (.ref 49), some (.ref 0), some (.ref 34), some (.int (nI i))], [.int (X.1 (i + 1)), .ref 34, .int v], M1) _
  refine q_Wp.gn 3 (c' := (171, [some (.ref 49), some (.ref 0), some (.ref 34), some (.int (nI i))], [.int (nI i + 2), .ref 49, .int (X.1 (i + 1)), .ref 34, .int v], M1)) rfl ?_
  refine q_Wp.cv (c' := (171, [some (.ref 49), some (.ref 0), some (.ref 34), some (.int (nI i))], [.int (nI (i + 2)), .ref 49, .int (X.1 (i + 1)), .ref 34, .int v], M1)) (by rw [show nI i + 2 = nI (i + 2) from law_i i 2]) ?_
  refine q_Wp.ilx rfl rfl rfl (by omega) (by omega) rfl ?_
  show q_Wp X _ 112 (172, [some (.ref 49), some (.ref 0), some (.ref 34), some (.int (nI i))], [.int (X.1 (i + 2)), .int (X.1 (i + 1)), .ref 34, .int v], M1) _
  refine q_Wp.gn 3 (c' := (176, [some (.ref 49), some (.ref 0), some (.ref 34), some (.int (nI i))], [.int (nI i + 3), .ref 49, .int (X.1 (i + 2)), .int (X.1 (i + 1)), .ref 34, .int v], M1)) rfl ?_
  refine q_Wp.cv (c' := (176, [some (.ref 49), some (.ref 0), some (.ref 34), some (.int (nI i))], [.int (nI (i + 3)), .ref 49, .int (X.1 (i + 2)), .int (X.1 (i + 1)), .ref 34, .int v], M1)) (by rw [show nI i + 3 = nI (i + 3) from law_i i 3]) ?_
  refine q_Wp.ilx rfl rfl rfl (by omega) (by omega) rfl ?_
  show q_Wp X _ 112 (177, [some (.ref 49), some (.ref 0), some (.ref 34), some (.int (nI i))], [.int (X.1 (i + 3)), .int (X.1 (i + 2)), .int (X.1 (i + 1)), .ref 34, .int v], M1) _
  refine q_Wp.gn 3 (c' := (181, [some (.ref 49), some (.ref 0), some (.ref 34), some (.int (nI i))], [.int (nI i + 4), .ref 49, .int (X.1 (i + 3)), .int (X.1 (i + 2)), .int (X.1 (i + 1)), .ref 34, .int v], M1)) rfl ?_
  refine q_Wp.cv (c' := (181, [some (.ref 49), some (.ref 0), some (.ref 34), some (.int (nI i))], [.int (nI (i + 4)), .ref 49, .int (X.1 (i + 3)), .int (X.1 (i + 2)), .int (X.1 (i + 1)), .ref 34, .int v], M1)) (by rw [show nI i + 4 = nI (i + 4) from law_i i 4]) ?_
  refine q_Wp.ilx rfl rfl rfl (by omega) (by omega) rfl ?_
  show q_Wp X _ 112 (182, [some (.ref 49), some (.ref 0), some (.ref 34), some (.int (nI i))], [.int (X.1 (i + 4)), .int (X.1 (i + 3)), .int (X.1 (i + 2)), .int (X.1 (i + 1)), .ref 34, .int v], M1) _
  refine q_Wp.gn 3 (c' := (186, [some (.ref 49), some (.ref 0), some (.ref 34), some (.int (nI i))], [.int (nI i + 5), .ref 49, .int (X.1 (i + 4)), .int (X.1 (i + 3)), .int (X.1 (i + 2)), .int (X.1 (i + 1)), .ref 34, .int v], M1)) rfl ?_
  refine q_Wp.cv (c' := (186, [some (.ref 49), some (.ref 0), some (.ref 34), some (.int (nI i))], [.int (nI (i + 5)), .ref 49, .int (X.1 (i + 4)), .int (X.1 (i + 3)), .int (X.1 (i + 2)), .int (X.1 (i + 1)), .ref 34, .int v], M1)) (by rw [show nI i + 5 = nI (i + 5) from law_i i 5]) ?_
  refine q_Wp.ilx rfl rfl rfl (by omega) (by omega) rfl ?_
  show q_Wp X _ 112 (187, [some (.ref 49), some (.ref 0), some (.ref 34), some (.int (nI i))], [.int (X.1 (i + 5)), .int (X.1 (i + 4)), .int (X.1 (i + 3)), .int (X.1 (i + 2)), .int (X.1 (i + 1)), .ref 34, .int v], M1) _
  refine q_Wp.gp 0 (mj := 70) (as := [.ref 34, .int (X.1 (i + 1)), .int (X.1 (i + 2)), .int (X.1 (i + 3)), .int (X.1 (i + 4)), .int (X.1 (i + 5))]) (pc := 190) (ls := [some (.ref 49), some (.ref 0), some (.ref 34), some (.int (nI i))]) (st := [.int v]) (M := M1) rfl (hm1 d M1 hm2) (fun r2 M2 z => ?_)
  obtain ⟨z1, hm3, z3⟩ := z
  subst z1
  have hx3 := hx2.keep hO1 z3
  show q_Wp X _ 112 (190, [some (.ref 49), some (.ref 0), some (.ref 34), some (.int (nI i))], [.int v, .int v], M2) _
  refine q_Wp.gd 0 (v = v) (c1 := (701, [some (.ref 49), some (.ref 0), some (.ref 34), some (.int (nI i))], [], M2)) (c2 := (193, [some (.ref 49), some (.ref 0), some (.ref 34), some (.int (nI i))], [], M2)) rfl (fun _ => ?_) (fun z => absurd rfl z)
  exact kk σ1 M2 hO1 hx3 hm3
set_option maxRecDepth 10000 in
theorem law_c1 (X : q_X) (hL : X.2 ≤ 3072) (d : Nat) {i : Nat} (hi : i + 6 ≤ X.2) {σ : q_S} {M : q_M} {P : Option Value → q_M → Prop} (hO : ok_S σ) (hx : x_S σ M) (hm : m_S σ M) (kk : ∀ (σ1 : q_S) (M1 : q_M), ok_S σ1 → x_S σ1 M1 → m_S σ1 M1 → q_Wp X (d + 12) 112 (701, [some (.ref 49), some (.ref 0), some (.ref 34), some (.int (nI i))], [], M1) P) : q_Wp X (d + 12) 112 (195, [some (.ref 49), some (.ref 0), some (.ref 34), some (.int (nI i))], [], M) P := by
  refine q_Wp.gn 4 (c' := (200, [some (.ref 49), some (.ref 0), some (.ref 34), some (.int (nI i))], [.int (nI i + 1), .ref 49, .ref 0], M)) rfl ?_
  refine q_Wp.cv (c' := (200, [some (.ref 49), some (.ref 0), some (.ref 34), some (.int (nI i))], [.int (nI (i + 1)), .ref 49, .ref 0], M)) (by rw [show nI i + 1 = nI (i + 1) from law_i i 1]) ?_
  refine q_Wp.ilx rfl rfl rfl (by omega) (by omega) rfl ?_
  show q_Wp X _ 112 (201, [some (.ref 49), some (.ref 0), some (.ref 34), some (.int (nI i))], [.int (X.1 (i + 1)), .ref 0], M) _
  refine q_Wp.gn 3 (c' := (205, [some (.ref 49), some (.ref 0), some (.ref 34), some (.int (nI i))], [.int (nI i + 2), .ref 49, .int (X.1 (i + 1)), .ref 0], M)) rfl ?_
  refine q_Wp.cv (c' := (205, [some (.ref 49), some (.ref 0), some (.ref 34), some (.int (nI i))], [.int (nI (i + 2)), .ref 49, .int (X.1 (i + 1)), .ref 0], M)) (by rw [show nI i + 2 = nI (i + 2) from law_i i 2]) ?_
  refine q_Wp.ilx rfl rfl rfl (by omega) (by omega) rfl ?_
  show q_Wp X _ 112 (206, [some (.ref 49), some (.ref 0), some (.ref 34), some (.int (nI i))], [.int (X.1 (i + 2)), .int (X.1 (i + 1)), .ref 0], M) _
  refine q_Wp.gn 3 (c' := (210, [some (.ref 49), some (.ref 0), some (.ref 34), some (.int (nI i))], [.int (nI i + 3), .ref 49, .int (X.1 (i + 2)), .int (X.1 (i + 1)), .ref 0], M)) rfl ?_
  refine q_Wp.cv (c' := (210, [some (.ref 49), some (.ref 0), some (.ref 34), some (.int (nI i))], [.int (nI (i + 3)), .ref 49, .int (X.1 (i + 2)), .int (X.1 (i + 1)), .ref 0], M)) (by rw [show nI i + 3 = nI (i + 3) from law_i i 3]) ?_
  refine q_Wp.ilx rfl rfl rfl (by omega) (by omega) rfl ?_
  show q_Wp X _ 112 (211, [some (.ref 49), some (.ref 0), some (.ref 34), some (.int (nI i))], [.int (X.1 (i + 3)), .int (X.1 (i + 2)), .int (X.1 (i + 1)), .ref 0], M) _
  obtain ⟨v, σ1, hO1, hx1, hm1⟩ := pr_set (X := X) hO (X.1 (i + 1)) (X.1 (i + 2)) (X.1 (i + 3))
  refine q_Wp.gp 0 (mj := 29) (as := [.ref 0, .int (X.1 (i + 1)), .int (X.1 (i + 2)), .int (X.1 (i + 3))]) (pc := 214) (ls := [some (.ref 49), some (.ref 0), some (.ref 34), some (.int (nI i))]) (st := []) (M := M) rfl (hx1 d M hx) (fun r1 M1 z => ?_)
  obtain ⟨z1, hx2, z3⟩ := z
  subst z1
  have hm2 := hm.keep hO z3
  show q_Wp X _ 112 (214, [some (.ref 49), some (.ref 0), some (.ref 34), some (.int (nI i))], [.int v], M1) _
  refine q_Wp.gn 4 (c' := (219, [some (.ref 49), some (.ref 0), some (.ref 34), some (.int (nI i))], [.int (nI i + 1), .ref 49, .ref 34, .int v], M1)) rfl ?_
  refine q_Wp.cv (c' := (219, [some (.ref 49), some (.ref 0), some (.ref 34), some (.int (nI i))], [.int (nI (i + 1)), .ref 49, .ref 34, .int v], M1)) (by rw [show nI i + 1 = nI (i + 1) from law_i i 1]) ?_
  refine q_Wp.ilx rfl rfl rfl (by omega) (by omega) rfl ?_
  show q_Wp X _ 112 (220, [some (.ref 49), some (.ref 0), some (.ref 34), some (.int (nI i))], [.int (X.1 (i + 1)), .ref 34, .int v], M1) _
  refine q_Wp.gn 3 (c' := (224, [some (.ref 49), some (.ref 0), some (.ref 34), some (.int (nI i))], [.int (nI i + 2), .ref 49, .int (X.1 (i + 1)), .ref 34, .int v], M1)) rfl ?_
  refine q_Wp.cv (c' := (224, [some (.ref 49), some (.ref 0), some (.ref 34), some (.int (nI i))], [.int (nI (i + 2)), .ref 49, .int (X.1 (i + 1)), .ref 34, .int v], M1)) (by rw [show nI i + 2 = nI (i + 2) from law_i i 2]) ?_
  refine q_Wp.ilx rfl rfl rfl (by omega) (by omega) rfl ?_
  show q_Wp X _ 112 (225, [some (.ref 49), some (.ref 0), some (.ref 34), some (.int (nI i))], [.int (X.1 (i + 2)), .int (X.1 (i + 1)), .ref 34, .int v], M1) _
  refine q_Wp.gn 3 (c' := (229, [some (.ref 49), some (.ref 0), some (.ref 34), some (.int (nI i))], [.int (nI i + 3), .ref 49, .int (X.1 (i + 2)), .int (X.1 (i + 1)), .ref 34, .int v], M1)) rfl ?_
  refine q_Wp.cv (c' := (229, [some (.ref 49), some (.ref 0), some (.ref 34), some (.int (nI i))], [.int (nI (i + 3)), .ref 49, .int (X.1 (i + 2)), .int (X.1 (i + 1)), .ref 34, .int v], M1)) (by rw [show nI i + 3 = nI (i + 3) from law_i i 3]) ?_
  refine q_Wp.ilx rfl rfl rfl (by omega) (by omega) rfl ?_
  show q_Wp X _ 112 (230, [some (.ref 49), some (.ref 0), some (.ref 34), some (.int (nI i))], [.int (X.1 (i + 3)), .int (X.1 (i + 2)), .int (X.1 (i + 1)), .ref 34, .int v], M1) _
  refine q_Wp.gp 0 (mj := 71) (as := [.ref 34, .int (X.1 (i + 1)), .int (X.1 (i + 2)), .int (X.1 (i + 3))]) (pc := 233) (ls := [some (.ref 49), some (.ref 0), some (.ref 34), some (.int (nI i))]) (st := [.int v]) (M := M1) rfl (hm1 d M1 hm2) (fun r2 M2 z => ?_)
  obtain ⟨z1, hm3, z3⟩ := z
  subst z1
  have hx3 := hx2.keep hO1 z3
  show q_Wp X _ 112 (233, [some (.ref 49), some (.ref 0), some (.ref 34), some (.int (nI i))], [.int v, .int v], M2) _
  refine q_Wp.gd 0 (v = v) (c1 := (701, [some (.ref 49), some (.ref 0), some (.ref 34), some (.int (nI i))], [], M2)) (c2 := (236, [some (.ref 49), some (.ref 0), some (.ref 34), some (.int (nI i))], [], M2)) rfl (fun _ => ?_) (fun z => absurd rfl z)
  exact kk σ1 M2 hO1 hx3 hm3
set_option maxRecDepth 10000 in
theorem law_c2 (X : q_X) (hL : X.2 ≤ 3072) (d : Nat) {i : Nat} (hi : i + 6 ≤ X.2) {σ : q_S} {M : q_M} {P : Option Value → q_M → Prop} (hO : ok_S σ) (hx : x_S σ M) (hm : m_S σ M) (kk : ∀ (σ1 : q_S) (M1 : q_M), ok_S σ1 → x_S σ1 M1 → m_S σ1 M1 → q_Wp X (d + 12) 112 (701, [some (.ref 49), some (.ref 0), some (.ref 34), some (.int (nI i))], [], M1) P) : q_Wp X (d + 12) 112 (238, [some (.ref 49), some (.ref 0), some (.ref 34), some (.int (nI i))], [], M) P := by
  refine q_Wp.gn 4 (c' := (243, [some (.ref 49), some (.ref 0), some (.ref 34), some (.int (nI i))], [.int (nI i + 1), .ref 49, .ref 0], M)) rfl ?_
  refine q_Wp.cv (c' := (243, [some (.ref 49), some (.ref 0), some (.ref 34), some (.int (nI i))], [.int (nI (i + 1)), .ref 49, .ref 0], M)) (by rw [show nI i + 1 = nI (i + 1) from law_i i 1]) ?_
  refine q_Wp.ilx rfl rfl rfl (by omega) (by omega) rfl ?_
  show q_Wp X _ 112 (244, [some (.ref 49), some (.ref 0), some (.ref 34), some (.int (nI i))], [.int (X.1 (i + 1)), .ref 0], M) _
  obtain ⟨v, σ1, hO1, hx1, hm1⟩ := pr_length (X := X) hO (X.1 (i + 1))
  refine q_Wp.gp 0 (mj := 30) (as := [.ref 0, .int (X.1 (i + 1))]) (pc := 247) (ls := [some (.ref 49), some (.ref 0), some (.ref 34), some (.int (nI i))]) (st := []) (M := M) rfl (hx1 d M hx) (fun r1 M1 z => ?_)
  obtain ⟨z1, hx2, z3⟩ := z
  subst z1
  have hm2 := hm.keep hO z3
  show q_Wp X _ 112 (247, [some (.ref 49), some (.ref 0), some (.ref 34), some (.int (nI i))], [.int v], M1) _
  refine q_Wp.gn 4 (c' := (252, [some (.ref 49), some (.ref 0), some (.ref 34), some (.int (nI i))], [.int (nI i + 1), .ref 49, .ref 34, .int v], M1)) rfl ?_
  refine q_Wp.cv (c' := (252, [some (.ref 49), some (.ref 0), some (.ref 34), some (.int (nI i))], [.int (nI (i + 1)), .ref 49, .ref 34, .int v], M1)) (by rw [show nI i + 1 = nI (i + 1) from law_i i 1]) ?_
  refine q_Wp.ilx rfl rfl rfl (by omega) (by omega) rfl ?_
  show q_Wp X _ 112 (253, [some (.ref 49), some (.ref 0), some (.ref 34), some (.int (nI i))], [.int (X.1 (i + 1)), .ref 34, .int v], M1) _
  refine q_Wp.gp 0 (mj := 72) (as := [.ref 34, .int (X.1 (i + 1))]) (pc := 256) (ls := [some (.ref 49), some (.ref 0), some (.ref 34), some (.int (nI i))]) (st := [.int v]) (M := M1) rfl (hm1 d M1 hm2) (fun r2 M2 z => ?_)
  obtain ⟨z1, hm3, z3⟩ := z
  subst z1
  have hx3 := hx2.keep hO1 z3
  show q_Wp X _ 112 (256, [some (.ref 49), some (.ref 0), some (.ref 34), some (.int (nI i))], [.int v, .int v], M2) _
  refine q_Wp.gd 0 (v = v) (c1 := (701, [some (.ref 49), some (.ref 0), some (.ref 34), some (.int (nI i))], [], M2)) (c2 := (259, [some (.ref 49), some (.ref 0), some (.ref 34), some (.int (nI i))], [], M2)) rfl (fun _ => ?_) (fun z => absurd rfl z)
  exact kk σ1 M2 hO1 hx3 hm3
set_option maxRecDepth 10000 in
theorem law_c3 (X : q_X) (hL : X.2 ≤ 3072) (d : Nat) {i : Nat} (hi : i + 6 ≤ X.2) {σ : q_S} {M : q_M} {P : Option Value → q_M → Prop} (hO : ok_S σ) (hx : x_S σ M) (hm : m_S σ M) (kk : ∀ (σ1 : q_S) (M1 : q_M), ok_S σ1 → x_S σ1 M1 → m_S σ1 M1 → q_Wp X (d + 12) 112 (701, [some (.ref 49), some (.ref 0), some (.ref 34), some (.int (nI i))], [], M1) P) : q_Wp X (d + 12) 112 (261, [some (.ref 49), some (.ref 0), some (.ref 34), some (.int (nI i))], [], M) P := by
  refine q_Wp.gn 4 (c' := (266, [some (.ref 49), some (.ref 0), some (.ref 34), some (.int (nI i))], [.int (nI i + 1), .ref 49, .ref 0], M)) rfl ?_
  refine q_Wp.cv (c' := (266, [some (.ref 49), some (.ref 0), some (.ref 34), some (.int (nI i))], [.int (nI (i + 1)), .ref 49, .ref 0], M)) (by rw [show nI i + 1 = nI (i + 1) from law_i i 1]) ?_
  refine q_Wp.ilx rfl rfl rfl (by omega) (by omega) rfl ?_
  show q_Wp X _ 112 (267, [some (.ref 49), some (.ref 0), some (.ref 34), some (.int (nI i))], [.int (X.1 (i + 1)), .ref 0], M) _
  refine q_Wp.gn 3 (c' := (271, [some (.ref 49), some (.ref 0), some (.ref 34), some (.int (nI i))], [.int (nI i + 2), .ref 49, .int (X.1 (i + 1)), .ref 0], M)) rfl ?_
  refine q_Wp.cv (c' := (271, [some (.ref 49), some (.ref 0), some (.ref 34), some (.int (nI i))], [.int (nI (i + 2)), .ref 49, .int (X.1 (i + 1)), .ref 0], M)) (by rw [show nI i + 2 = nI (i + 2) from law_i i 2]) ?_
  refine q_Wp.ilx rfl rfl rfl (by omega) (by omega) rfl ?_
  show q_Wp X _ 112 (272, [some (.ref 49), some (.ref 0), some (.ref 34), some (.int (nI i))], [.int (X.1 (i + 2)), .int (X.1 (i + 1)), .ref 0], M) _
  refine q_Wp.gn 3 (c' := (276, [some (.ref 49), some (.ref 0), some (.ref 34), some (.int (nI i))], [.int (nI i + 3), .ref 49, .int (X.1 (i + 2)), .int (X.1 (i + 1)), .ref 0], M)) rfl ?_
  refine q_Wp.cv (c' := (276, [some (.ref 49), some (.ref 0), some (.ref 34), some (.int (nI i))], [.int (nI (i + 3)), .ref 49, .int (X.1 (i + 2)), .int (X.1 (i + 1)), .ref 0], M)) (by rw [show nI i + 3 = nI (i + 3) from law_i i 3]) ?_
  refine q_Wp.ilx rfl rfl rfl (by omega) (by omega) rfl ?_
  show q_Wp X _ 112 (277, [some (.ref 49), some (.ref 0), some (.ref 34), some (.int (nI i))], [.int (X.1 (i + 3)), .int (X.1 (i + 2)), .int (X.1 (i + 1)), .ref 0], M) _
  obtain ⟨v, σ1, hO1, hx1, hm1⟩ := pr_share (X := X) hO (X.1 (i + 1)) (X.1 (i + 2)) (X.1 (i + 3))
  refine q_Wp.gp 0 (mj := 31) (as := [.ref 0, .int (X.1 (i + 1)), .int (X.1 (i + 2)), .int (X.1 (i + 3))]) (pc := 280) (ls := [some (.ref 49), some (.ref 0), some (.ref 34), some (.int (nI i))]) (st := []) (M := M) rfl (hx1 d M hx) (fun r1 M1 z => ?_)
  obtain ⟨z1, hx2, z3⟩ := z
  subst z1
  have hm2 := hm.keep hO z3
  show q_Wp X _ 112 (280, [some (.ref 49), some (.ref 0), some (.ref 34), some (.int (nI i))], [.int v], M1) _
  refine q_Wp.gn 4 (c' := (285, [some (.ref 49), some (.ref 0), some (.ref 34), some (.int (nI i))], [.int (nI i + 1), .ref 49, .ref 34, .int v], M1)) rfl ?_
  refine q_Wp.cv (c' := (285, [some (.ref 49), some (.ref 0), some (.ref 34), some (.int (nI i))], [.int (nI (i + 1)), .ref 49, .ref 34, .int v], M1)) (by rw [show nI i + 1 = nI (i + 1) from law_i i 1]) ?_
  refine q_Wp.ilx rfl rfl rfl (by omega) (by omega) rfl ?_
  show q_Wp X _ 112 (286, [some (.ref 49), some (.ref 0), some (.ref 34), some (.int (nI i))], [.int (X.1 (i + 1)), .ref 34, .int v], M1) _
  refine q_Wp.gn 3 (c' := (290, [some (.ref 49), some (.ref 0), some (.ref 34), some (.int (nI i))], [.int (nI i + 2), .ref 49, .int (X.1 (i + 1)), .ref 34, .int v], M1)) rfl ?_
  refine q_Wp.cv (c' := (290, [some (.ref 49), some (.ref 0), some (.ref 34), some (.int (nI i))], [.int (nI (i + 2)), .ref 49, .int (X.1 (i + 1)), .ref 34, .int v], M1)) (by rw [show nI i + 2 = nI (i + 2) from law_i i 2]) ?_
  refine q_Wp.ilx rfl rfl rfl (by omega) (by omega) rfl ?_
  show q_Wp X _ 112 (291, [some (.ref 49), some (.ref 0), some (.ref 34), some (.int (nI i))], [.int (X.1 (i + 2)), .int (X.1 (i + 1)), .ref 34, .int v], M1) _
  refine q_Wp.gn 3 (c' := (295, [some (.ref 49), some (.ref 0), some (.ref 34), some (.int (nI i))], [.int (nI i + 3), .ref 49, .int (X.1 (i + 2)), .int (X.1 (i + 1)), .ref 34, .int v], M1)) rfl ?_
  refine q_Wp.cv (c' := (295, [some (.ref 49), some (.ref 0), some (.ref 34), some (.int (nI i))], [.int (nI (i + 3)), .ref 49, .int (X.1 (i + 2)), .int (X.1 (i + 1)), .ref 34, .int v], M1)) (by rw [show nI i + 3 = nI (i + 3) from law_i i 3]) ?_
  refine q_Wp.ilx rfl rfl rfl (by omega) (by omega) rfl ?_
  show q_Wp X _ 112 (296, [some (.ref 49), some (.ref 0), some (.ref 34), some (.int (nI i))], [.int (X.1 (i + 3)), .int (X.1 (i + 2)), .int (X.1 (i + 1)), .ref 34, .int v], M1) _
  refine q_Wp.gp 0 (mj := 73) (as := [.ref 34, .int (X.1 (i + 1)), .int (X.1 (i + 2)), .int (X.1 (i + 3))]) (pc := 299) (ls := [some (.ref 49), some (.ref 0), some (.ref 34), some (.int (nI i))]) (st := [.int v]) (M := M1) rfl (hm1 d M1 hm2) (fun r2 M2 z => ?_)
  obtain ⟨z1, hm3, z3⟩ := z
  subst z1
  have hx3 := hx2.keep hO1 z3
  show q_Wp X _ 112 (299, [some (.ref 49), some (.ref 0), some (.ref 34), some (.int (nI i))], [.int v, .int v], M2) _
  refine q_Wp.gd 0 (v = v) (c1 := (701, [some (.ref 49), some (.ref 0), some (.ref 34), some (.int (nI i))], [], M2)) (c2 := (302, [some (.ref 49), some (.ref 0), some (.ref 34), some (.int (nI i))], [], M2)) rfl (fun _ => ?_) (fun z => absurd rfl z)
  exact kk σ1 M2 hO1 hx3 hm3
set_option maxRecDepth 10000 in
theorem law_c4 (X : q_X) (hL : X.2 ≤ 3072) (d : Nat) {i : Nat} (hi : i + 6 ≤ X.2) {σ : q_S} {M : q_M} {P : Option Value → q_M → Prop} (hO : ok_S σ) (hx : x_S σ M) (hm : m_S σ M) (kk : ∀ (σ1 : q_S) (M1 : q_M), ok_S σ1 → x_S σ1 M1 → m_S σ1 M1 → q_Wp X (d + 12) 112 (701, [some (.ref 49), some (.ref 0), some (.ref 34), some (.int (nI i))], [], M1) P) : q_Wp X (d + 12) 112 (304, [some (.ref 49), some (.ref 0), some (.ref 34), some (.int (nI i))], [], M) P := by
  refine q_Wp.gn 4 (c' := (309, [some (.ref 49), some (.ref 0), some (.ref 34), some (.int (nI i))], [.int (nI i + 1), .ref 49, .ref 0], M)) rfl ?_
  refine q_Wp.cv (c' := (309, [some (.ref 49), some (.ref 0), some (.ref 34), some (.int (nI i))], [.int (nI (i + 1)), .ref 49, .ref 0], M)) (by rw [show nI i + 1 = nI (i + 1) from law_i i 1]) ?_
  refine q_Wp.ilx rfl rfl rfl (by omega) (by omega) rfl ?_
  show q_Wp X _ 112 (310, [some (.ref 49), some (.ref 0), some (.ref 34), some (.int (nI i))], [.int (X.1 (i + 1)), .ref 0], M) _
  refine q_Wp.gn 3 (c' := (314, [some (.ref 49), some (.ref 0), some (.ref 34), some (.int (nI i))], [.int (nI i + 2), .ref 49, .int (X.1 (i + 1)), .ref 0], M)) rfl ?_
  refine q_Wp.cv (c' := (314, [some (.ref 49), some (.ref 0), some (.ref 34), some (.int (nI i))], [.int (nI (i + 2)), .ref 49, .int (X.1 (i + 1)), .ref 0], M)) (by rw [show nI i + 2 = nI (i + 2) from law_i i 2]) ?_
  refine q_Wp.ilx rfl rfl rfl (by omega) (by omega) rfl ?_
  show q_Wp X _ 112 (315, [some (.ref 49), some (.ref 0), some (.ref 34), some (.int (nI i))], [.int (X.1 (i + 2)), .int (X.1 (i + 1)), .ref 0], M) _
  obtain ⟨v, σ1, hO1, hx1, hm1⟩ := pr_sure (X := X) hO (X.1 (i + 1)) (X.1 (i + 2))
  refine q_Wp.gp 0 (mj := 32) (as := [.ref 0, .int (X.1 (i + 1)), .int (X.1 (i + 2))]) (pc := 318) (ls := [some (.ref 49), some (.ref 0), some (.ref 34), some (.int (nI i))]) (st := []) (M := M) rfl (hx1 d M hx) (fun r1 M1 z => ?_)
  obtain ⟨z1, hx2, z3⟩ := z
  subst z1
  have hm2 := hm.keep hO z3
  show q_Wp X _ 112 (318, [some (.ref 49), some (.ref 0), some (.ref 34), some (.int (nI i))], [.int v], M1) _
  refine q_Wp.gn 4 (c' := (323, [some (.ref 49), some (.ref 0), some (.ref 34), some (.int (nI i))], [.int (nI i + 1), .ref 49, .ref 34, .int v], M1)) rfl ?_
  refine q_Wp.cv (c' := (323, [some (.ref 49), some (.ref 0), some (.ref 34), some (.int (nI i))], [.int (nI (i + 1)), .ref 49, .ref 34, .int v], M1)) (by rw [show nI i + 1 = nI (i + 1) from law_i i 1]) ?_
  refine q_Wp.ilx rfl rfl rfl (by omega) (by omega) rfl ?_
  show q_Wp X _ 112 (324, [some (.ref 49), some (.ref 0), some (.ref 34), some (.int (nI i))], [.int (X.1 (i + 1)), .ref 34, .int v], M1) _
  refine q_Wp.gn 3 (c' := (328, [some (.ref 49), some (.ref 0), some (.ref 34), some (.int (nI i))], [.int (nI i + 2), .ref 49, .int (X.1 (i + 1)), .ref 34, .int v], M1)) rfl ?_
  refine q_Wp.cv (c' := (328, [some (.ref 49), some (.ref 0), some (.ref 34), some (.int (nI i))], [.int (nI (i + 2)), .ref 49, .int (X.1 (i + 1)), .ref 34, .int v], M1)) (by rw [show nI i + 2 = nI (i + 2) from law_i i 2]) ?_
  refine q_Wp.ilx rfl rfl rfl (by omega) (by omega) rfl ?_
  show q_Wp X _ 112 (329, [some (.ref 49), some (.ref 0), some (.ref 34), some (.int (nI i))], [.int (X.1 (i + 2)), .int (X.1 (i + 1)), .ref 34, .int v], M1) _
  refine q_Wp.gp 0 (mj := 74) (as := [.ref 34, .int (X.1 (i + 1)), .int (X.1 (i + 2))]) (pc := 332) (ls := [some (.ref 49), some (.ref 0), some (.ref 34), some (.int (nI i))]) (st := [.int v]) (M := M1) rfl (hm1 d M1 hm2) (fun r2 M2 z => ?_)
  obtain ⟨z1, hm3, z3⟩ := z
  subst z1
  have hx3 := hx2.keep hO1 z3
  show q_Wp X _ 112 (332, [some (.ref 49), some (.ref 0), some (.ref 34), some (.int (nI i))], [.int v, .int v], M2) _
  refine q_Wp.gd 0 (v = v) (c1 := (701, [some (.ref 49), some (.ref 0), some (.ref 34), some (.int (nI i))], [], M2)) (c2 := (335, [some (.ref 49), some (.ref 0), some (.ref 34), some (.int (nI i))], [], M2)) rfl (fun _ => ?_) (fun z => absurd rfl z)
  exact kk σ1 M2 hO1 hx3 hm3
set_option maxRecDepth 10000 in
theorem law_c5 (X : q_X) (hL : X.2 ≤ 3072) (d : Nat) {i : Nat} (hi : i + 6 ≤ X.2) {σ : q_S} {M : q_M} {P : Option Value → q_M → Prop} (hO : ok_S σ) (hx : x_S σ M) (hm : m_S σ M) (kk : ∀ (σ1 : q_S) (M1 : q_M), ok_S σ1 → x_S σ1 M1 → m_S σ1 M1 → q_Wp X (d + 12) 112 (701, [some (.ref 49), some (.ref 0), some (.ref 34), some (.int (nI i))], [], M1) P) : q_Wp X (d + 12) 112 (337, [some (.ref 49), some (.ref 0), some (.ref 34), some (.int (nI i))], [], M) P := by
  refine q_Wp.gn 4 (c' := (342, [some (.ref 49), some (.ref 0), some (.ref 34), some (.int (nI i))], [.int (nI i + 1), .ref 49, .ref 0], M)) rfl ?_
  refine q_Wp.cv (c' := (342, [some (.ref 49), some (.ref 0), some (.ref 34), some (.int (nI i))], [.int (nI (i + 1)), .ref 49, .ref 0], M)) (by rw [show nI i + 1 = nI (i + 1) from law_i i 1]) ?_
  refine q_Wp.ilx rfl rfl rfl (by omega) (by omega) rfl ?_
  show q_Wp X _ 112 (343, [some (.ref 49), some (.ref 0), some (.ref 34), some (.int (nI i))], [.int (X.1 (i + 1)), .ref 0], M) _
  refine q_Wp.gn 3 (c' := (347, [some (.ref 49), some (.ref 0), some (.ref 34), some (.int (nI i))], [.int (nI i + 2), .ref 49, .int (X.1 (i + 1)), .ref 0], M)) rfl ?_
  refine q_Wp.cv (c' := (347, [some (.ref 49), some (.ref 0), some (.ref 34), some (.int (nI i))], [.int (nI (i + 2)), .ref 49, .int (X.1 (i + 1)), .ref 0], M)) (by rw [show nI i + 2 = nI (i + 2) from law_i i 2]) ?_
  refine q_Wp.ilx rfl rfl rfl (by omega) (by omega) rfl ?_
  show q_Wp X _ 112 (348, [some (.ref 49), some (.ref 0), some (.ref 34), some (.int (nI i))], [.int (X.1 (i + 2)), .int (X.1 (i + 1)), .ref 0], M) _
  obtain ⟨v, σ1, hO1, hx1, hm1⟩ := pr_weight (X := X) hO (X.1 (i + 1)) (X.1 (i + 2))
  refine q_Wp.gp 0 (mj := 33) (as := [.ref 0, .int (X.1 (i + 1)), .int (X.1 (i + 2))]) (pc := 351) (ls := [some (.ref 49), some (.ref 0), some (.ref 34), some (.int (nI i))]) (st := []) (M := M) rfl (hx1 d M hx) (fun r1 M1 z => ?_)
  obtain ⟨z1, hx2, z3⟩ := z
  subst z1
  have hm2 := hm.keep hO z3
  show q_Wp X _ 112 (351, [some (.ref 49), some (.ref 0), some (.ref 34), some (.int (nI i))], [.int v], M1) _
  refine q_Wp.gn 4 (c' := (356, [some (.ref 49), some (.ref 0), some (.ref 34), some (.int (nI i))], [.int (nI i + 1), .ref 49, .ref 34, .int v], M1)) rfl ?_
  refine q_Wp.cv (c' := (356, [some (.ref 49), some (.ref 0), some (.ref 34), some (.int (nI i))], [.int (nI (i + 1)), .ref 49, .ref 34, .int v], M1)) (by rw [show nI i + 1 = nI (i + 1) from law_i i 1]) ?_
  refine q_Wp.ilx rfl rfl rfl (by omega) (by omega) rfl ?_
  show q_Wp X _ 112 (357, [some (.ref 49), some (.ref 0), some (.ref 34), some (.int (nI i))], [.int (X.1 (i + 1)), .ref 34, .int v], M1) _
  refine q_Wp.gn 3 (c' := (361, [some (.ref 49), some (.ref 0), some (.ref 34), some (.int (nI i))], [.int (nI i + 2), .ref 49, .int (X.1 (i + 1)), .ref 34, .int v], M1)) rfl ?_
  refine q_Wp.cv (c' := (361, [some (.ref 49), some (.ref 0), some (.ref 34), some (.int (nI i))], [.int (nI (i + 2)), .ref 49, .int (X.1 (i + 1)), .ref 34, .int v], M1)) (by rw [show nI i + 2 = nI (i + 2) from law_i i 2]) ?_
  refine q_Wp.ilx rfl rfl rfl (by omega) (by omega) rfl ?_
  show q_Wp X _ 112 (362, [some (.ref 49), some (.ref 0), some (.ref 34), some (.int (nI i))], [.int (X.1 (i + 2)), .int (X.1 (i + 1)), .ref 34, .int v], M1) _
  refine q_Wp.gp 0 (mj := 75) (as := [.ref 34, .int (X.1 (i + 1)), .int (X.1 (i + 2))]) (pc := 365) (ls := [some (.ref 49), some (.ref 0), some (.ref 34), some (.int (nI i))]) (st := [.int v]) (M := M1) rfl (hm1 d M1 hm2) (fun r2 M2 z => ?_)
  obtain ⟨z1, hm3, z3⟩ := z
  subst z1
  have hx3 := hx2.keep hO1 z3
  show q_Wp X _ 112 (365, [some (.ref 49), some (.ref 0), some (.ref 34), some (.int (nI i))], [.int v, .int v], M2) _
  refine q_Wp.gd 0 (v = v) (c1 := (701, [some (.ref 49), some (.ref 0), some (.ref 34), some (.int (nI i))], [], M2)) (c2 := (368, [some (.ref 49), some (.ref 0), some (.ref 34), some (.int (nI i))], [], M2)) rfl (fun _ => ?_) (fun z => absurd rfl z)
  exact kk σ1 M2 hO1 hx3 hm3
set_option maxRecDepth 10000 in
theorem law_c6 (X : q_X) (hL : X.2 ≤ 3072) (d : Nat) {i : Nat} (hi : i + 6 ≤ X.2) {σ : q_S} {M : q_M} {P : Option Value → q_M → Prop} (hO : ok_S σ) (hx : x_S σ M) (hm : m_S σ M) (kk : ∀ (σ1 : q_S) (M1 : q_M), ok_S σ1 → x_S σ1 M1 → m_S σ1 M1 → q_Wp X (d + 12) 112 (701, [some (.ref 49), some (.ref 0), some (.ref 34), some (.int (nI i))], [], M1) P) : q_Wp X (d + 12) 112 (370, [some (.ref 49), some (.ref 0), some (.ref 34), some (.int (nI i))], [], M) P := by
  refine q_Wp.gn 4 (c' := (375, [some (.ref 49), some (.ref 0), some (.ref 34), some (.int (nI i))], [.int (nI i + 1), .ref 49, .ref 0], M)) rfl ?_
  refine q_Wp.cv (c' := (375, [some (.ref 49), some (.ref 0), some (.ref 34), some (.int (nI i))], [.int (nI (i + 1)), .ref 49, .ref 0], M)) (by rw [show nI i + 1 = nI (i + 1) from law_i i 1]) ?_
  refine q_Wp.ilx rfl rfl rfl (by omega) (by omega) rfl ?_
  show q_Wp X _ 112 (376, [some (.ref 49), some (.ref 0), some (.ref 34), some (.int (nI i))], [.int (X.1 (i + 1)), .ref 0], M) _
  refine q_Wp.gn 3 (c' := (380, [some (.ref 49), some (.ref 0), some (.ref 34), some (.int (nI i))], [.int (nI i + 2), .ref 49, .int (X.1 (i + 1)), .ref 0], M)) rfl ?_
  refine q_Wp.cv (c' := (380, [some (.ref 49), some (.ref 0), some (.ref 34), some (.int (nI i))], [.int (nI (i + 2)), .ref 49, .int (X.1 (i + 1)), .ref 0], M)) (by rw [show nI i + 2 = nI (i + 2) from law_i i 2]) ?_
  refine q_Wp.ilx rfl rfl rfl (by omega) (by omega) rfl ?_
  show q_Wp X _ 112 (381, [some (.ref 49), some (.ref 0), some (.ref 34), some (.int (nI i))], [.int (X.1 (i + 2)), .int (X.1 (i + 1)), .ref 0], M) _
  obtain ⟨v, σ1, hO1, hx1, hm1⟩ := pr_about (X := X) hO (X.1 (i + 1)) (X.1 (i + 2))
  refine q_Wp.gp 0 (mj := 34) (as := [.ref 0, .int (X.1 (i + 1)), .int (X.1 (i + 2))]) (pc := 384) (ls := [some (.ref 49), some (.ref 0), some (.ref 34), some (.int (nI i))]) (st := []) (M := M) rfl (hx1 d M hx) (fun r1 M1 z => ?_)
  obtain ⟨z1, hx2, z3⟩ := z
  subst z1
  have hm2 := hm.keep hO z3
  show q_Wp X _ 112 (384, [some (.ref 49), some (.ref 0), some (.ref 34), some (.int (nI i))], [.int v], M1) _
  refine q_Wp.gn 4 (c' := (389, [some (.ref 49), some (.ref 0), some (.ref 34), some (.int (nI i))], [.int (nI i + 1), .ref 49, .ref 34, .int v], M1)) rfl ?_
  refine q_Wp.cv (c' := (389, [some (.ref 49), some (.ref 0), some (.ref 34), some (.int (nI i))], [.int (nI (i + 1)), .ref 49, .ref 34, .int v], M1)) (by rw [show nI i + 1 = nI (i + 1) from law_i i 1]) ?_
  refine q_Wp.ilx rfl rfl rfl (by omega) (by omega) rfl ?_
  show q_Wp X _ 112 (390, [some (.ref 49), some (.ref 0), some (.ref 34), some (.int (nI i))], [.int (X.1 (i + 1)), .ref 34, .int v], M1) _
  refine q_Wp.gn 3 (c' := (394, [some (.ref 49), some (.ref 0), some (.ref 34), some (.int (nI i))], [.int (nI i + 2), .ref 49, .int (X.1 (i + 1)), .ref 34, .int v], M1)) rfl ?_
  refine q_Wp.cv (c' := (394, [some (.ref 49), some (.ref 0), some (.ref 34), some (.int (nI i))], [.int (nI (i + 2)), .ref 49, .int (X.1 (i + 1)), .ref 34, .int v], M1)) (by rw [show nI i + 2 = nI (i + 2) from law_i i 2]) ?_
  refine q_Wp.ilx rfl rfl rfl (by omega) (by omega) rfl ?_
  show q_Wp X _ 112 (395, [some (.ref 49), some (.ref 0), some (.ref 34), some (.int (nI i))], [.int (X.1 (i + 2)), .int (X.1 (i + 1)), .ref 34, .int v], M1) _
  refine q_Wp.gp 0 (mj := 76) (as := [.ref 34, .int (X.1 (i + 1)), .int (X.1 (i + 2))]) (pc := 398) (ls := [some (.ref 49), some (.ref 0), some (.ref 34), some (.int (nI i))]) (st := [.int v]) (M := M1) rfl (hm1 d M1 hm2) (fun r2 M2 z => ?_)
  obtain ⟨z1, hm3, z3⟩ := z
  subst z1
  have hx3 := hx2.keep hO1 z3
  show q_Wp X _ 112 (398, [some (.ref 49), some (.ref 0), some (.ref 34), some (.int (nI i))], [.int v, .int v], M2) _
  refine q_Wp.gd 0 (v = v) (c1 := (701, [some (.ref 49), some (.ref 0), some (.ref 34), some (.int (nI i))], [], M2)) (c2 := (401, [some (.ref 49), some (.ref 0), some (.ref 34), some (.int (nI i))], [], M2)) rfl (fun _ => ?_) (fun z => absurd rfl z)
  exact kk σ1 M2 hO1 hx3 hm3
set_option maxRecDepth 10000 in
theorem law_c7 (X : q_X) (hL : X.2 ≤ 3072) (d : Nat) {i : Nat} (hi : i + 6 ≤ X.2) {σ : q_S} {M : q_M} {P : Option Value → q_M → Prop} (hO : ok_S σ) (hx : x_S σ M) (hm : m_S σ M) (kk : ∀ (σ1 : q_S) (M1 : q_M), ok_S σ1 → x_S σ1 M1 → m_S σ1 M1 → q_Wp X (d + 12) 112 (701, [some (.ref 49), some (.ref 0), some (.ref 34), some (.int (nI i))], [], M1) P) : q_Wp X (d + 12) 112 (403, [some (.ref 49), some (.ref 0), some (.ref 34), some (.int (nI i))], [], M) P := by
  refine q_Wp.gn 0 (c' := (404, [some (.ref 49), some (.ref 0), some (.ref 34), some (.int (nI i))], [.ref 0], M)) rfl ?_
  obtain ⟨v, σ1, hO1, hx1, hm1⟩ := pr_fit (X := X) hO
  refine q_Wp.gp 0 (mj := 35) (as := [.ref 0]) (pc := 407) (ls := [some (.ref 49), some (.ref 0), some (.ref 34), some (.int (nI i))]) (st := []) (M := M) rfl (hx1 d M hx) (fun r1 M1 z => ?_)
  obtain ⟨z1, hx2, z3⟩ := z
  subst z1
  have hm2 := hm.keep hO z3
  show q_Wp X _ 112 (407, [some (.ref 49), some (.ref 0), some (.ref 34), some (.int (nI i))], [.int v], M1) _
  refine q_Wp.gn 0 (c' := (408, [some (.ref 49), some (.ref 0), some (.ref 34), some (.int (nI i))], [.ref 34, .int v], M1)) rfl ?_
  refine q_Wp.gp 0 (mj := 81) (as := [.ref 34]) (pc := 411) (ls := [some (.ref 49), some (.ref 0), some (.ref 34), some (.int (nI i))]) (st := [.int v]) (M := M1) rfl (hm1 d M1 hm2) (fun r2 M2 z => ?_)
  obtain ⟨z1, hm3, z3⟩ := z
  subst z1
  have hx3 := hx2.keep hO1 z3
  show q_Wp X _ 112 (411, [some (.ref 49), some (.ref 0), some (.ref 34), some (.int (nI i))], [.int v, .int v], M2) _
  refine q_Wp.gd 0 (v = v) (c1 := (701, [some (.ref 49), some (.ref 0), some (.ref 34), some (.int (nI i))], [], M2)) (c2 := (414, [some (.ref 49), some (.ref 0), some (.ref 34), some (.int (nI i))], [], M2)) rfl (fun _ => ?_) (fun z => absurd rfl z)
  exact kk σ1 M2 hO1 hx3 hm3
set_option maxRecDepth 10000 in
theorem law_c8 (X : q_X) (hL : X.2 ≤ 3072) (d : Nat) {i : Nat} (hi : i + 6 ≤ X.2) {σ : q_S} {M : q_M} {P : Option Value → q_M → Prop} (hO : ok_S σ) (hx : x_S σ M) (hm : m_S σ M) (kk : ∀ (σ1 : q_S) (M1 : q_M), ok_S σ1 → x_S σ1 M1 → m_S σ1 M1 → q_Wp X (d + 12) 112 (701, [some (.ref 49), some (.ref 0), some (.ref 34), some (.int (nI i))], [], M1) P) : q_Wp X (d + 12) 112 (416, [some (.ref 49), some (.ref 0), some (.ref 34), some (.int (nI i))], [], M) P := by
  refine q_Wp.gn 0 (c' := (417, [some (.ref 49), some (.ref 0), some (.ref 34), some (.int (nI i))], [.ref 0], M)) rfl ?_
  obtain ⟨v, σ1, hO1, hx1, hm1⟩ := pr_begin (X := X) hO
  refine q_Wp.gp 0 (mj := 36) (as := [.ref 0]) (pc := 420) (ls := [some (.ref 49), some (.ref 0), some (.ref 34), some (.int (nI i))]) (st := []) (M := M) rfl (hx1 d M hx) (fun r1 M1 z => ?_)
  obtain ⟨z1, hx2, z3⟩ := z
  subst z1
  have hm2 := hm.keep hO z3
  show q_Wp X _ 112 (420, [some (.ref 49), some (.ref 0), some (.ref 34), some (.int (nI i))], [.int v], M1) _
  refine q_Wp.gn 0 (c' := (421, [some (.ref 49), some (.ref 0), some (.ref 34), some (.int (nI i))], [.ref 34, .int v], M1)) rfl ?_
  refine q_Wp.gp 0 (mj := 86) (as := [.ref 34]) (pc := 424) (ls := [some (.ref 49), some (.ref 0), some (.ref 34), some (.int (nI i))]) (st := [.int v]) (M := M1) rfl (hm1 d M1 hm2) (fun r2 M2 z => ?_)
  obtain ⟨z1, hm3, z3⟩ := z
  subst z1
  have hx3 := hx2.keep hO1 z3
  show q_Wp X _ 112 (424, [some (.ref 49), some (.ref 0), some (.ref 34), some (.int (nI i))], [.int v, .int v], M2) _
  refine q_Wp.gd 0 (v = v) (c1 := (701, [some (.ref 49), some (.ref 0), some (.ref 34), some (.int (nI i))], [], M2)) (c2 := (427, [some (.ref 49), some (.ref 0), some (.ref 34), some (.int (nI i))], [], M2)) rfl (fun _ => ?_) (fun z => absurd rfl z)
  exact kk σ1 M2 hO1 hx3 hm3
set_option maxRecDepth 10000 in
theorem law_c9 (X : q_X) (hL : X.2 ≤ 3072) (d : Nat) {i : Nat} (hi : i + 6 ≤ X.2) {σ : q_S} {M : q_M} {P : Option Value → q_M → Prop} (hO : ok_S σ) (hx : x_S σ M) (hm : m_S σ M) (kk : ∀ (σ1 : q_S) (M1 : q_M), ok_S σ1 → x_S σ1 M1 → m_S σ1 M1 → q_Wp X (d + 12) 112 (701, [some (.ref 49), some (.ref 0), some (.ref 34), some (.int (nI i))], [], M1) P) : q_Wp X (d + 12) 112 (429, [some (.ref 49), some (.ref 0), some (.ref 34), some (.int (nI i))], [], M) P := by
  refine q_Wp.gn 0 (c' := (430, [some (.ref 49), some (.ref 0), some (.ref 34), some (.int (nI i))], [.ref 0], M)) rfl ?_
  obtain ⟨v, σ1, hO1, hx1, hm1⟩ := pr_next (X := X) hO
  refine q_Wp.gp 0 (mj := 37) (as := [.ref 0]) (pc := 433) (ls := [some (.ref 49), some (.ref 0), some (.ref 34), some (.int (nI i))]) (st := []) (M := M) rfl (hx1 d M hx) (fun r1 M1 z => ?_)
  obtain ⟨z1, hx2, z3⟩ := z
  subst z1
  have hm2 := hm.keep hO z3
  show q_Wp X _ 112 (433, [some (.ref 49), some (.ref 0), some (.ref 34), some (.int (nI i))], [.int v], M1) _
  refine q_Wp.gn 0 (c' := (434, [some (.ref 49), some (.ref 0), some (.ref 34), some (.int (nI i))], [.ref 34, .int v], M1)) rfl ?_
  refine q_Wp.gp 0 (mj := 95) (as := [.ref 34]) (pc := 437) (ls := [some (.ref 49), some (.ref 0), some (.ref 34), some (.int (nI i))]) (st := [.int v]) (M := M1) rfl (hm1 d M1 hm2) (fun r2 M2 z => ?_)
  obtain ⟨z1, hm3, z3⟩ := z
  subst z1
  have hx3 := hx2.keep hO1 z3
  show q_Wp X _ 112 (437, [some (.ref 49), some (.ref 0), some (.ref 34), some (.int (nI i))], [.int v, .int v], M2) _
  refine q_Wp.gd 0 (v = v) (c1 := (701, [some (.ref 49), some (.ref 0), some (.ref 34), some (.int (nI i))], [], M2)) (c2 := (440, [some (.ref 49), some (.ref 0), some (.ref 34), some (.int (nI i))], [], M2)) rfl (fun _ => ?_) (fun z => absurd rfl z)
  exact kk σ1 M2 hO1 hx3 hm3
set_option maxRecDepth 10000 in
theorem law_c10 (X : q_X) (hL : X.2 ≤ 3072) (d : Nat) {i : Nat} (hi : i + 6 ≤ X.2) {σ : q_S} {M : q_M} {P : Option Value → q_M → Prop} (hO : ok_S σ) (hx : x_S σ M) (hm : m_S σ M) (kk : ∀ (σ1 : q_S) (M1 : q_M), ok_S σ1 → x_S σ1 M1 → m_S σ1 M1 → q_Wp X (d + 12) 112 (701, [some (.ref 49), some (.ref 0), some (.ref 34), some (.int (nI i))], [], M1) P) : q_Wp X (d + 12) 112 (442, [some (.ref 49), some (.ref 0), some (.ref 34), some (.int (nI i))], [], M) P := by
  by_cases hz : X.1 (i + 2) = 0
  · -- 0
    refine q_Wp.gn 4 (c' := (447, [some (.ref 49), some (.ref 0), some (.ref 34), some (.int (nI i))], [.int (nI i + 1), .ref 49, .ref 0], M)) rfl ?_
    refine q_Wp.cv (c' := (447, [some (.ref 49), some (.ref 0), some (.ref 34), some (.int (nI i))], [.int (nI (i + 1)), .ref 49, .ref 0], M)) (by rw [show nI i + 1 = nI (i + 1) from law_i i 1]) ?_
    refine q_Wp.ilx rfl rfl rfl (by omega) (by omega) rfl ?_
    show q_Wp X _ 112 (448, [some (.ref 49), some (.ref 0), some (.ref 34), some (.int (nI i))], [.int (X.1 (i + 1)), .ref 0], M) _
    refine q_Wp.gn 3 (c' := (452, [some (.ref 49), some (.ref 0), some (.ref 34), some (.int (nI i))], [.int (nI i + 2), .ref 49, .int (X.1 (i + 1)), .ref 0], M)) rfl ?_
    refine q_Wp.cv (c' := (452, [some (.ref 49), some (.ref 0), some (.ref 34), some (.int (nI i))], [.int (nI (i + 2)), .ref 49, .int (X.1 (i + 1)), .ref 0], M)) (by rw [show nI i + 2 = nI (i + 2) from law_i i 2]) ?_
    refine q_Wp.ilx rfl rfl rfl (by omega) (by omega) rfl ?_
    show q_Wp X _ 112 (453, [some (.ref 49), some (.ref 0), some (.ref 34), some (.int (nI i))], [.int (X.1 (i + 2)), .int (X.1 (i + 1)), .ref 0], M) _
    refine q_Wp.gd 0 (X.1 (i + 2) = 0) (c1 := (460, [some (.ref 49), some (.ref 0), some (.ref 34), some (.int (nI i))], [.int (X.1 (i + 1)), .ref 0], M)) (c2 := (456, [some (.ref 49), some (.ref 0), some (.ref 34), some (.int (nI i))], [.int (X.1 (i + 1)), .ref 0], M)) rfl (fun _ => ?_) (fun z => absurd hz z)
    refine q_Wp.gn 0 (c' := (461, [some (.ref 49), some (.ref 0), some (.ref 34), some (.int (nI i))], [.int 0, .int (X.1 (i + 1)), .ref 0], M)) rfl ?_
    obtain ⟨v, σ1, hO1, hx1, hm1⟩ := pr_answer (X := X) hO (X.1 (i + 1)) false
    refine q_Wp.gp 0 (mj := 38) (as := [.ref 0, .int (X.1 (i + 1)), .int 0]) (pc := 464) (ls := [some (.ref 49), some (.ref 0), some (.ref 34), some (.int (nI i))]) (st := []) (M := M) rfl (hx1 d M hx) (fun r1 M1 z => ?_)
    obtain ⟨z1, hx2, z3⟩ := z
    subst z1
    have hm2 := hm.keep hO z3
    show q_Wp X _ 112 (464, [some (.ref 49), some (.ref 0), some (.ref 34), some (.int (nI i))], [.int v], M1) _
    refine q_Wp.gn 4 (c' := (469, [some (.ref 49), some (.ref 0), some (.ref 34), some (.int (nI i))], [.int (nI i + 1), .ref 49, .ref 34, .int v], M1)) rfl ?_
    refine q_Wp.cv (c' := (469, [some (.ref 49), some (.ref 0), some (.ref 34), some (.int (nI i))], [.int (nI (i + 1)), .ref 49, .ref 34, .int v], M1)) (by rw [show nI i + 1 = nI (i + 1) from law_i i 1]) ?_
    refine q_Wp.ilx rfl rfl rfl (by omega) (by omega) rfl ?_
    show q_Wp X _ 112 (470, [some (.ref 49), some (.ref 0), some (.ref 34), some (.int (nI i))], [.int (X.1 (i + 1)), .ref 34, .int v], M1) _
    refine q_Wp.gn 3 (c' := (474, [some (.ref 49), some (.ref 0), some (.ref 34), some (.int (nI i))], [.int (nI i + 2), .ref 49, .int (X.1 (i + 1)), .ref 34, .int v], M1)) rfl ?_
    refine q_Wp.cv (c' := (474, [some (.ref 49), some (.ref 0), some (.ref 34), some (.int (nI i))], [.int (nI (i + 2)), .ref 49, .int (X.1 (i + 1)), .ref 34, .int v], M1)) (by rw [show nI i + 2 = nI (i + 2) from law_i i 2]) ?_
    refine q_Wp.ilx rfl rfl rfl (by omega) (by omega) rfl ?_
    show q_Wp X _ 112 (475, [some (.ref 49), some (.ref 0), some (.ref 34), some (.int (nI i))], [.int (X.1 (i + 2)), .int (X.1 (i + 1)), .ref 34, .int v], M1) _
    refine q_Wp.gd 0 (X.1 (i + 2) = 0) (c1 := (482, [some (.ref 49), some (.ref 0), some (.ref 34), some (.int (nI i))], [.int (X.1 (i + 1)), .ref 34, .int v], M1)) (c2 := (478, [some (.ref 49), some (.ref 0), some (.ref 34), some (.int (nI i))], [.int (X.1 (i + 1)), .ref 34, .int v], M1)) rfl (fun _ => ?_) (fun z => absurd hz z)
    refine q_Wp.gn 0 (c' := (483, [some (.ref 49), some (.ref 0), some (.ref 34), some (.int (nI i))], [.int 0, .int (X.1 (i + 1)), .ref 34, .int v], M1)) rfl ?_
    refine q_Wp.gp 0 (mj := 96) (as := [.ref 34, .int (X.1 (i + 1)), .int 0]) (pc := 486) (ls := [some (.ref 49), some (.ref 0), some (.ref 34), some (.int (nI i))]) (st := [.int v]) (M := M1) rfl (hm1 d M1 hm2) (fun r2 M2 z => ?_)
    obtain ⟨z1, hm3, z3⟩ := z
    subst z1
    have hx3 := hx2.keep hO1 z3
    show q_Wp X _ 112 (486, [some (.ref 49), some (.ref 0), some (.ref 34), some (.int (nI i))], [.int v, .int v], M2) _
    refine q_Wp.gd 0 (v = v) (c1 := (701, [some (.ref 49), some (.ref 0), some (.ref 34), some (.int (nI i))], [], M2)) (c2 := (489, [some (.ref 49), some (.ref 0), some (.ref 34), some (.int (nI i))], [], M2)) rfl (fun _ => ?_) (fun z => absurd rfl z)
    exact kk σ1 M2 hO1 hx3 hm3
  · -- 1
    refine q_Wp.gn 4 (c' := (447, [some (.ref 49), some (.ref 0), some (.ref 34), some (.int (nI i))], [.int (nI i + 1), .ref 49, .ref 0], M)) rfl ?_
    refine q_Wp.cv (c' := (447, [some (.ref 49), some (.ref 0), some (.ref 34), some (.int (nI i))], [.int (nI (i + 1)), .ref 49, .ref 0], M)) (by rw [show nI i + 1 = nI (i + 1) from law_i i 1]) ?_
    refine q_Wp.ilx rfl rfl rfl (by omega) (by omega) rfl ?_
    show q_Wp X _ 112 (448, [some (.ref 49), some (.ref 0), some (.ref 34), some (.int (nI i))], [.int (X.1 (i + 1)), .ref 0], M) _
    refine q_Wp.gn 3 (c' := (452, [some (.ref 49), some (.ref 0), some (.ref 34), some (.int (nI i))], [.int (nI i + 2), .ref 49, .int (X.1 (i + 1)), .ref 0], M)) rfl ?_
    refine q_Wp.cv (c' := (452, [some (.ref 49), some (.ref 0), some (.ref 34), some (.int (nI i))], [.int (nI (i + 2)), .ref 49, .int (X.1 (i + 1)), .ref 0], M)) (by rw [show nI i + 2 = nI (i + 2) from law_i i 2]) ?_
    refine q_Wp.ilx rfl rfl rfl (by omega) (by omega) rfl ?_
    show q_Wp X _ 112 (453, [some (.ref 49), some (.ref 0), some (.ref 34), some (.int (nI i))], [.int (X.1 (i + 2)), .int (X.1 (i + 1)), .ref 0], M) _
    refine q_Wp.gd 0 (X.1 (i + 2) = 0) (c1 := (460, [some (.ref 49), some (.ref 0), some (.ref 34), some (.int (nI i))], [.int (X.1 (i + 1)), .ref 0], M)) (c2 := (456, [some (.ref 49), some (.ref 0), some (.ref 34), some (.int (nI i))], [.int (X.1 (i + 1)), .ref 0], M)) rfl (fun z => absurd z hz) (fun _ => ?_)
    refine q_Wp.gn 1 (c' := (461, [some (.ref 49), some (.ref 0), some (.ref 34), some (.int (nI i))], [.int 1, .int (X.1 (i + 1)), .ref 0], M)) rfl ?_
    obtain ⟨v, σ1, hO1, hx1, hm1⟩ := pr_answer (X := X) hO (X.1 (i + 1)) true
    refine q_Wp.gp 0 (mj := 38) (as := [.ref 0, .int (X.1 (i + 1)), .int 1]) (pc := 464) (ls := [some (.ref 49), some (.ref 0), some (.ref 34), some (.int (nI i))]) (st := []) (M := M) rfl (hx1 d M hx) (fun r1 M1 z => ?_)
    obtain ⟨z1, hx2, z3⟩ := z
    subst z1
    have hm2 := hm.keep hO z3
    show q_Wp X _ 112 (464, [some (.ref 49), some (.ref 0), some (.ref 34), some (.int (nI i))], [.int v], M1) _
    refine q_Wp.gn 4 (c' := (469, [some (.ref 49), some (.ref 0), some (.ref 34), some (.int (nI i))], [.int (nI i + 1), .ref 49, .ref 34, .int v], M1)) rfl ?_
    refine q_Wp.cv (c' := (469, [some (.ref 49), some (.ref 0), some (.ref 34), some (.int (nI i))], [.int (nI (i + 1)), .ref 49, .ref 34, .int v], M1)) (by rw [show nI i + 1 = nI (i + 1) from law_i i 1]) ?_
    refine q_Wp.ilx rfl rfl rfl (by omega) (by omega) rfl ?_
    show q_Wp X _ 112 (470, [some (.ref 49), some (.ref 0), some (.ref 34), some (.int (nI i))], [.int (X.1 (i + 1)), .ref 34, .int v], M1) _
    refine q_Wp.gn 3 (c' := (474, [some (.ref 49), some (.ref 0), some (.ref 34), some (.int (nI i))], [.int (nI i + 2), .ref 49, .int (X.1 (i + 1)), .ref 34, .int v], M1)) rfl ?_
    refine q_Wp.cv (c' := (474, [some (.ref 49), some (.ref 0), some (.ref 34), some (.int (nI i))], [.int (nI (i + 2)), .ref 49, .int (X.1 (i + 1)), .ref 34, .int v], M1)) (by rw [show nI i + 2 = nI (i + 2) from law_i i 2]) ?_
    refine q_Wp.ilx rfl rfl rfl (by omega) (by omega) rfl ?_
    show q_Wp X _ 112 (475, [some (.ref 49), some (.ref 0), some (.ref 34), some (.int (nI i))], [.int (X.1 (i + 2)), .int (X.1 (i + 1)), .ref 34, .int v], M1) _
    refine q_Wp.gd 0 (X.1 (i + 2) = 0) (c1 := (482, [some (.ref 49), some (.ref 0), some (.ref 34), some (.int (nI i))], [.int (X.1 (i + 1)), .ref 34, .int v], M1)) (c2 := (478, [some (.ref 49), some (.ref 0), some (.ref 34), some (.int (nI i))], [.int (X.1 (i + 1)), .ref 34, .int v], M1)) rfl (fun z => absurd z hz) (fun _ => ?_)
    refine q_Wp.gn 1 (c' := (483, [some (.ref 49), some (.ref 0), some (.ref 34), some (.int (nI i))], [.int 1, .int (X.1 (i + 1)), .ref 34, .int v], M1)) rfl ?_
    refine q_Wp.gp 0 (mj := 96) (as := [.ref 34, .int (X.1 (i + 1)), .int 1]) (pc := 486) (ls := [some (.ref 49), some (.ref 0), some (.ref 34), some (.int (nI i))]) (st := [.int v]) (M := M1) rfl (hm1 d M1 hm2) (fun r2 M2 z => ?_)
    obtain ⟨z1, hm3, z3⟩ := z
    subst z1
    have hx3 := hx2.keep hO1 z3
    show q_Wp X _ 112 (486, [some (.ref 49), some (.ref 0), some (.ref 34), some (.int (nI i))], [.int v, .int v], M2) _
    refine q_Wp.gd 0 (v = v) (c1 := (701, [some (.ref 49), some (.ref 0), some (.ref 34), some (.int (nI i))], [], M2)) (c2 := (489, [some (.ref 49), some (.ref 0), some (.ref 34), some (.int (nI i))], [], M2)) rfl (fun _ => ?_) (fun z => absurd rfl z)
    exact kk σ1 M2 hO1 hx3 hm3
set_option maxRecDepth 10000 in
theorem law_c11 (X : q_X) (hL : X.2 ≤ 3072) (d : Nat) {i : Nat} (hi : i + 6 ≤ X.2) {σ : q_S} {M : q_M} {P : Option Value → q_M → Prop} (hO : ok_S σ) (hx : x_S σ M) (hm : m_S σ M) (kk : ∀ (σ1 : q_S) (M1 : q_M), ok_S σ1 → x_S σ1 M1 → m_S σ1 M1 → q_Wp X (d + 12) 112 (701, [some (.ref 49), some (.ref 0), some (.ref 34), some (.int (nI i))], [], M1) P) : q_Wp X (d + 12) 112 (491, [some (.ref 49), some (.ref 0), some (.ref 34), some (.int (nI i))], [], M) P := by
  refine q_Wp.gn 0 (c' := (492, [some (.ref 49), some (.ref 0), some (.ref 34), some (.int (nI i))], [.ref 0], M)) rfl ?_
  obtain ⟨v, σ1, hO1, hx1, hm1⟩ := pr_back (X := X) hO
  refine q_Wp.gp 0 (mj := 39) (as := [.ref 0]) (pc := 495) (ls := [some (.ref 49), some (.ref 0), some (.ref 34), some (.int (nI i))]) (st := []) (M := M) rfl (hx1 d M hx) (fun r1 M1 z => ?_)
  obtain ⟨z1, hx2, z3⟩ := z
  subst z1
  have hm2 := hm.keep hO z3
  show q_Wp X _ 112 (495, [some (.ref 49), some (.ref 0), some (.ref 34), some (.int (nI i))], [.int v], M1) _
  refine q_Wp.gn 0 (c' := (496, [some (.ref 49), some (.ref 0), some (.ref 34), some (.int (nI i))], [.ref 34, .int v], M1)) rfl ?_
  refine q_Wp.gp 0 (mj := 97) (as := [.ref 34]) (pc := 499) (ls := [some (.ref 49), some (.ref 0), some (.ref 34), some (.int (nI i))]) (st := [.int v]) (M := M1) rfl (hm1 d M1 hm2) (fun r2 M2 z => ?_)
  obtain ⟨z1, hm3, z3⟩ := z
  subst z1
  have hx3 := hx2.keep hO1 z3
  show q_Wp X _ 112 (499, [some (.ref 49), some (.ref 0), some (.ref 34), some (.int (nI i))], [.int v, .int v], M2) _
  refine q_Wp.gd 0 (v = v) (c1 := (701, [some (.ref 49), some (.ref 0), some (.ref 34), some (.int (nI i))], [], M2)) (c2 := (502, [some (.ref 49), some (.ref 0), some (.ref 34), some (.int (nI i))], [], M2)) rfl (fun _ => ?_) (fun z => absurd rfl z)
  exact kk σ1 M2 hO1 hx3 hm3
set_option maxRecDepth 10000 in
theorem law_c12 (X : q_X) (hL : X.2 ≤ 3072) (d : Nat) {i : Nat} (hi : i + 6 ≤ X.2) {σ : q_S} {M : q_M} {P : Option Value → q_M → Prop} (hO : ok_S σ) (hx : x_S σ M) (hm : m_S σ M) (kk : ∀ (σ1 : q_S) (M1 : q_M), ok_S σ1 → x_S σ1 M1 → m_S σ1 M1 → q_Wp X (d + 12) 112 (701, [some (.ref 49), some (.ref 0), some (.ref 34), some (.int (nI i))], [], M1) P) : q_Wp X (d + 12) 112 (504, [some (.ref 49), some (.ref 0), some (.ref 34), some (.int (nI i))], [], M) P := by
  refine q_Wp.gn 0 (c' := (505, [some (.ref 49), some (.ref 0), some (.ref 34), some (.int (nI i))], [.ref 0], M)) rfl ?_
  obtain ⟨v, σ1, hO1, hx1, hm1⟩ := pr_end (X := X) hO
  refine q_Wp.gp 0 (mj := 40) (as := [.ref 0]) (pc := 508) (ls := [some (.ref 49), some (.ref 0), some (.ref 34), some (.int (nI i))]) (st := []) (M := M) rfl (hx1 d M hx) (fun r1 M1 z => ?_)
  obtain ⟨z1, hx2, z3⟩ := z
  subst z1
  have hm2 := hm.keep hO z3
  show q_Wp X _ 112 (508, [some (.ref 49), some (.ref 0), some (.ref 34), some (.int (nI i))], [.int v], M1) _
  refine q_Wp.gn 0 (c' := (509, [some (.ref 49), some (.ref 0), some (.ref 34), some (.int (nI i))], [.ref 34, .int v], M1)) rfl ?_
  refine q_Wp.gp 0 (mj := 98) (as := [.ref 34]) (pc := 512) (ls := [some (.ref 49), some (.ref 0), some (.ref 34), some (.int (nI i))]) (st := [.int v]) (M := M1) rfl (hm1 d M1 hm2) (fun r2 M2 z => ?_)
  obtain ⟨z1, hm3, z3⟩ := z
  subst z1
  have hx3 := hx2.keep hO1 z3
  show q_Wp X _ 112 (512, [some (.ref 49), some (.ref 0), some (.ref 34), some (.int (nI i))], [.int v, .int v], M2) _
  refine q_Wp.gd 0 (v = v) (c1 := (701, [some (.ref 49), some (.ref 0), some (.ref 34), some (.int (nI i))], [], M2)) (c2 := (515, [some (.ref 49), some (.ref 0), some (.ref 34), some (.int (nI i))], [], M2)) rfl (fun _ => ?_) (fun z => absurd rfl z)
  exact kk σ1 M2 hO1 hx3 hm3
set_option maxRecDepth 10000 in
theorem law_c13 (X : q_X) (hL : X.2 ≤ 3072) (d : Nat) {i : Nat} (hi : i + 6 ≤ X.2) {σ : q_S} {M : q_M} {P : Option Value → q_M → Prop} (hO : ok_S σ) (hx : x_S σ M) (hm : m_S σ M) (kk : ∀ (σ1 : q_S) (M1 : q_M), ok_S σ1 → x_S σ1 M1 → m_S σ1 M1 → q_Wp X (d + 12) 112 (701, [some (.ref 49), some (.ref 0), some (.ref 34), some (.int (nI i))], [], M1) P) : q_Wp X (d + 12) 112 (517, [some (.ref 49), some (.ref 0), some (.ref 34), some (.int (nI i))], [], M) P := by
  refine q_Wp.gn 0 (c' := (518, [some (.ref 49), some (.ref 0), some (.ref 34), some (.int (nI i))], [.ref 0], M)) rfl ?_
  obtain ⟨v, σ1, hO1, hx1, hm1⟩ := pr_quit (X := X) hO
  refine q_Wp.gp 0 (mj := 41) (as := [.ref 0]) (pc := 521) (ls := [some (.ref 49), some (.ref 0), some (.ref 34), some (.int (nI i))]) (st := []) (M := M) rfl (hx1 d M hx) (fun r1 M1 z => ?_)
  obtain ⟨z1, hx2, z3⟩ := z
  subst z1
  have hm2 := hm.keep hO z3
  show q_Wp X _ 112 (521, [some (.ref 49), some (.ref 0), some (.ref 34), some (.int (nI i))], [.int v], M1) _
  refine q_Wp.gn 0 (c' := (522, [some (.ref 49), some (.ref 0), some (.ref 34), some (.int (nI i))], [.ref 34, .int v], M1)) rfl ?_
  refine q_Wp.gp 0 (mj := 99) (as := [.ref 34]) (pc := 525) (ls := [some (.ref 49), some (.ref 0), some (.ref 34), some (.int (nI i))]) (st := [.int v]) (M := M1) rfl (hm1 d M1 hm2) (fun r2 M2 z => ?_)
  obtain ⟨z1, hm3, z3⟩ := z
  subst z1
  have hx3 := hx2.keep hO1 z3
  show q_Wp X _ 112 (525, [some (.ref 49), some (.ref 0), some (.ref 34), some (.int (nI i))], [.int v, .int v], M2) _
  refine q_Wp.gd 0 (v = v) (c1 := (701, [some (.ref 49), some (.ref 0), some (.ref 34), some (.int (nI i))], [], M2)) (c2 := (528, [some (.ref 49), some (.ref 0), some (.ref 34), some (.int (nI i))], [], M2)) rfl (fun _ => ?_) (fun z => absurd rfl z)
  exact kk σ1 M2 hO1 hx3 hm3
set_option maxRecDepth 10000 in
theorem law_c14 (X : q_X) (hL : X.2 ≤ 3072) (d : Nat) {i : Nat} (hi : i + 6 ≤ X.2) {σ : q_S} {M : q_M} {P : Option Value → q_M → Prop} (hO : ok_S σ) (hx : x_S σ M) (hm : m_S σ M) (kk : ∀ (σ1 : q_S) (M1 : q_M), ok_S σ1 → x_S σ1 M1 → m_S σ1 M1 → q_Wp X (d + 12) 112 (701, [some (.ref 49), some (.ref 0), some (.ref 34), some (.int (nI i))], [], M1) P) : q_Wp X (d + 12) 112 (530, [some (.ref 49), some (.ref 0), some (.ref 34), some (.int (nI i))], [], M) P := by
  refine q_Wp.gn 4 (c' := (535, [some (.ref 49), some (.ref 0), some (.ref 34), some (.int (nI i))], [.int (nI i + 1), .ref 49, .ref 0], M)) rfl ?_
  refine q_Wp.cv (c' := (535, [some (.ref 49), some (.ref 0), some (.ref 34), some (.int (nI i))], [.int (nI (i + 1)), .ref 49, .ref 0], M)) (by rw [show nI i + 1 = nI (i + 1) from law_i i 1]) ?_
  refine q_Wp.ilx rfl rfl rfl (by omega) (by omega) rfl ?_
  show q_Wp X _ 112 (536, [some (.ref 49), some (.ref 0), some (.ref 34), some (.int (nI i))], [.int (X.1 (i + 1)), .ref 0], M) _
  obtain ⟨v, σ1, hO1, hx1, hm1⟩ := pr_may (X := X) hO (X.1 (i + 1))
  refine q_Wp.gp 0 (mj := 42) (as := [.ref 0, .int (X.1 (i + 1))]) (pc := 539) (ls := [some (.ref 49), some (.ref 0), some (.ref 34), some (.int (nI i))]) (st := []) (M := M) rfl (hx1 d M hx) (fun r1 M1 z => ?_)
  obtain ⟨z1, hx2, z3⟩ := z
  subst z1
  have hm2 := hm.keep hO z3
  show q_Wp X _ 112 (539, [some (.ref 49), some (.ref 0), some (.ref 34), some (.int (nI i))], [.int v], M1) _
  refine q_Wp.gn 4 (c' := (544, [some (.ref 49), some (.ref 0), some (.ref 34), some (.int (nI i))], [.int (nI i + 1), .ref 49, .ref 34, .int v], M1)) rfl ?_
  refine q_Wp.cv (c' := (544, [some (.ref 49), some (.ref 0), some (.ref 34), some (.int (nI i))], [.int (nI (i + 1)), .ref 49, .ref 34, .int v], M1)) (by rw [show nI i + 1 = nI (i + 1) from law_i i 1]) ?_
  refine q_Wp.ilx rfl rfl rfl (by omega) (by omega) rfl ?_
  show q_Wp X _ 112 (545, [some (.ref 49), some (.ref 0), some (.ref 34), some (.int (nI i))], [.int (X.1 (i + 1)), .ref 34, .int v], M1) _
  refine q_Wp.gp 0 (mj := 100) (as := [.ref 34, .int (X.1 (i + 1))]) (pc := 548) (ls := [some (.ref 49), some (.ref 0), some (.ref 34), some (.int (nI i))]) (st := [.int v]) (M := M1) rfl (hm1 d M1 hm2) (fun r2 M2 z => ?_)
  obtain ⟨z1, hm3, z3⟩ := z
  subst z1
  have hx3 := hx2.keep hO1 z3
  show q_Wp X _ 112 (548, [some (.ref 49), some (.ref 0), some (.ref 34), some (.int (nI i))], [.int v, .int v], M2) _
  refine q_Wp.gd 0 (v = v) (c1 := (701, [some (.ref 49), some (.ref 0), some (.ref 34), some (.int (nI i))], [], M2)) (c2 := (551, [some (.ref 49), some (.ref 0), some (.ref 34), some (.int (nI i))], [], M2)) rfl (fun _ => ?_) (fun z => absurd rfl z)
  exact kk σ1 M2 hO1 hx3 hm3
set_option maxRecDepth 10000 in
theorem law_c15 (X : q_X) (hL : X.2 ≤ 3072) (d : Nat) {i : Nat} (hi : i + 6 ≤ X.2) {σ : q_S} {M : q_M} {P : Option Value → q_M → Prop} (hO : ok_S σ) (hx : x_S σ M) (hm : m_S σ M) (kk : ∀ (σ1 : q_S) (M1 : q_M), ok_S σ1 → x_S σ1 M1 → m_S σ1 M1 → q_Wp X (d + 12) 112 (701, [some (.ref 49), some (.ref 0), some (.ref 34), some (.int (nI i))], [], M1) P) : q_Wp X (d + 12) 112 (553, [some (.ref 49), some (.ref 0), some (.ref 34), some (.int (nI i))], [], M) P := by
  refine q_Wp.gn 4 (c' := (558, [some (.ref 49), some (.ref 0), some (.ref 34), some (.int (nI i))], [.int (nI i + 1), .ref 49, .ref 0], M)) rfl ?_
  refine q_Wp.cv (c' := (558, [some (.ref 49), some (.ref 0), some (.ref 34), some (.int (nI i))], [.int (nI (i + 1)), .ref 49, .ref 0], M)) (by rw [show nI i + 1 = nI (i + 1) from law_i i 1]) ?_
  refine q_Wp.ilx rfl rfl rfl (by omega) (by omega) rfl ?_
  show q_Wp X _ 112 (559, [some (.ref 49), some (.ref 0), some (.ref 34), some (.int (nI i))], [.int (X.1 (i + 1)), .ref 0], M) _
  refine q_Wp.gn 3 (c' := (563, [some (.ref 49), some (.ref 0), some (.ref 34), some (.int (nI i))], [.int (nI i + 2), .ref 49, .int (X.1 (i + 1)), .ref 0], M)) rfl ?_
  refine q_Wp.cv (c' := (563, [some (.ref 49), some (.ref 0), some (.ref 34), some (.int (nI i))], [.int (nI (i + 2)), .ref 49, .int (X.1 (i + 1)), .ref 0], M)) (by rw [show nI i + 2 = nI (i + 2) from law_i i 2]) ?_
  refine q_Wp.ilx rfl rfl rfl (by omega) (by omega) rfl ?_
  show q_Wp X _ 112 (564, [some (.ref 49), some (.ref 0), some (.ref 34), some (.int (nI i))], [.int (X.1 (i + 2)), .int (X.1 (i + 1)), .ref 0], M) _
  obtain ⟨v, σ1, hO1, hx1, hm1⟩ := pr_gain (X := X) hO (X.1 (i + 1)) (X.1 (i + 2))
  refine q_Wp.gp 0 (mj := 43) (as := [.ref 0, .int (X.1 (i + 1)), .int (X.1 (i + 2))]) (pc := 567) (ls := [some (.ref 49), some (.ref 0), some (.ref 34), some (.int (nI i))]) (st := []) (M := M) rfl (hx1 d M hx) (fun r1 M1 z => ?_)
  obtain ⟨z1, hx2, z3⟩ := z
  subst z1
  have hm2 := hm.keep hO z3
  show q_Wp X _ 112 (567, [some (.ref 49), some (.ref 0), some (.ref 34), some (.int (nI i))], [.int v], M1) _
  refine q_Wp.gn 4 (c' := (572, [some (.ref 49), some (.ref 0), some (.ref 34), some (.int (nI i))], [.int (nI i + 1), .ref 49, .ref 34, .int v], M1)) rfl ?_
  refine q_Wp.cv (c' := (572, [some (.ref 49), some (.ref 0), some (.ref 34), some (.int (nI i))], [.int (nI (i + 1)), .ref 49, .ref 34, .int v], M1)) (by rw [show nI i + 1 = nI (i + 1) from law_i i 1]) ?_
  refine q_Wp.ilx rfl rfl rfl (by omega) (by omega) rfl ?_
  show q_Wp X _ 112 (573, [some (.ref 49), some (.ref 0), some (.ref 34), some (.int (nI i))], [.int (X.1 (i + 1)), .ref 34, .int v], M1) _
  refine q_Wp.gn 3 (c' := (577, [some (.ref 49), some (.ref 0), some (.ref 34), some (.int (nI i))], [.int (nI i + 2), .ref 49, .int (X.1 (i + 1)), .ref 34, .int v], M1)) rfl ?_
  refine q_Wp.cv (c' := (577, [some (.ref 49), some (.ref 0), some (.ref 34), some (.int (nI i))], [.int (nI (i + 2)), .ref 49, .int (X.1 (i + 1)), .ref 34, .int v], M1)) (by rw [show nI i + 2 = nI (i + 2) from law_i i 2]) ?_
  refine q_Wp.ilx rfl rfl rfl (by omega) (by omega) rfl ?_
  show q_Wp X _ 112 (578, [some (.ref 49), some (.ref 0), some (.ref 34), some (.int (nI i))], [.int (X.1 (i + 2)), .int (X.1 (i + 1)), .ref 34, .int v], M1) _
  refine q_Wp.gp 0 (mj := 101) (as := [.ref 34, .int (X.1 (i + 1)), .int (X.1 (i + 2))]) (pc := 581) (ls := [some (.ref 49), some (.ref 0), some (.ref 34), some (.int (nI i))]) (st := [.int v]) (M := M1) rfl (hm1 d M1 hm2) (fun r2 M2 z => ?_)
  obtain ⟨z1, hm3, z3⟩ := z
  subst z1
  have hx3 := hx2.keep hO1 z3
  show q_Wp X _ 112 (581, [some (.ref 49), some (.ref 0), some (.ref 34), some (.int (nI i))], [.int v, .int v], M2) _
  refine q_Wp.gd 0 (v = v) (c1 := (701, [some (.ref 49), some (.ref 0), some (.ref 34), some (.int (nI i))], [], M2)) (c2 := (584, [some (.ref 49), some (.ref 0), some (.ref 34), some (.int (nI i))], [], M2)) rfl (fun _ => ?_) (fun z => absurd rfl z)
  exact kk σ1 M2 hO1 hx3 hm3
set_option maxRecDepth 10000 in
theorem law_c16 (X : q_X) (hL : X.2 ≤ 3072) (d : Nat) {i : Nat} (hi : i + 6 ≤ X.2) {σ : q_S} {M : q_M} {P : Option Value → q_M → Prop} (hO : ok_S σ) (hx : x_S σ M) (hm : m_S σ M) (kk : ∀ (σ1 : q_S) (M1 : q_M), ok_S σ1 → x_S σ1 M1 → m_S σ1 M1 → q_Wp X (d + 12) 112 (701, [some (.ref 49), some (.ref 0), some (.ref 34), some (.int (nI i))], [], M1) P) : q_Wp X (d + 12) 112 (586, [some (.ref 49), some (.ref 0), some (.ref 34), some (.int (nI i))], [], M) P := by
  refine q_Wp.gn 0 (c' := (587, [some (.ref 49), some (.ref 0), some (.ref 34), some (.int (nI i))], [.ref 0], M)) rfl ?_
  obtain ⟨v, σ1, hO1, hx1, hm1⟩ := pr_done (X := X) hO
  refine q_Wp.gp 0 (mj := 44) (as := [.ref 0]) (pc := 590) (ls := [some (.ref 49), some (.ref 0), some (.ref 34), some (.int (nI i))]) (st := []) (M := M) rfl (hx1 d M hx) (fun r1 M1 z => ?_)
  obtain ⟨z1, hx2, z3⟩ := z
  subst z1
  have hm2 := hm.keep hO z3
  show q_Wp X _ 112 (590, [some (.ref 49), some (.ref 0), some (.ref 34), some (.int (nI i))], [.int v], M1) _
  refine q_Wp.gn 0 (c' := (591, [some (.ref 49), some (.ref 0), some (.ref 34), some (.int (nI i))], [.ref 34, .int v], M1)) rfl ?_
  refine q_Wp.gp 0 (mj := 102) (as := [.ref 34]) (pc := 594) (ls := [some (.ref 49), some (.ref 0), some (.ref 34), some (.int (nI i))]) (st := [.int v]) (M := M1) rfl (hm1 d M1 hm2) (fun r2 M2 z => ?_)
  obtain ⟨z1, hm3, z3⟩ := z
  subst z1
  have hx3 := hx2.keep hO1 z3
  show q_Wp X _ 112 (594, [some (.ref 49), some (.ref 0), some (.ref 34), some (.int (nI i))], [.int v, .int v], M2) _
  refine q_Wp.gd 0 (v = v) (c1 := (701, [some (.ref 49), some (.ref 0), some (.ref 34), some (.int (nI i))], [], M2)) (c2 := (597, [some (.ref 49), some (.ref 0), some (.ref 34), some (.int (nI i))], [], M2)) rfl (fun _ => ?_) (fun z => absurd rfl z)
  exact kk σ1 M2 hO1 hx3 hm3
set_option maxRecDepth 10000 in
theorem law_c17 (X : q_X) (hL : X.2 ≤ 3072) (d : Nat) {i : Nat} (hi : i + 6 ≤ X.2) {σ : q_S} {M : q_M} {P : Option Value → q_M → Prop} (hO : ok_S σ) (hx : x_S σ M) (hm : m_S σ M) (kk : ∀ (σ1 : q_S) (M1 : q_M), ok_S σ1 → x_S σ1 M1 → m_S σ1 M1 → q_Wp X (d + 12) 112 (701, [some (.ref 49), some (.ref 0), some (.ref 34), some (.int (nI i))], [], M1) P) : q_Wp X (d + 12) 112 (599, [some (.ref 49), some (.ref 0), some (.ref 34), some (.int (nI i))], [], M) P := by
  refine q_Wp.gn 4 (c' := (604, [some (.ref 49), some (.ref 0), some (.ref 34), some (.int (nI i))], [.int (nI i + 1), .ref 49, .ref 0], M)) rfl ?_
  refine q_Wp.cv (c' := (604, [some (.ref 49), some (.ref 0), some (.ref 34), some (.int (nI i))], [.int (nI (i + 1)), .ref 49, .ref 0], M)) (by rw [show nI i + 1 = nI (i + 1) from law_i i 1]) ?_
  refine q_Wp.ilx rfl rfl rfl (by omega) (by omega) rfl ?_
  show q_Wp X _ 112 (605, [some (.ref 49), some (.ref 0), some (.ref 34), some (.int (nI i))], [.int (X.1 (i + 1)), .ref 0], M) _
  obtain ⟨v, σ1, hO1, hx1, hm1⟩ := pr_now (X := X) hO (X.1 (i + 1))
  refine q_Wp.gp 0 (mj := 45) (as := [.ref 0, .int (X.1 (i + 1))]) (pc := 608) (ls := [some (.ref 49), some (.ref 0), some (.ref 34), some (.int (nI i))]) (st := []) (M := M) rfl (hx1 d M hx) (fun r1 M1 z => ?_)
  obtain ⟨z1, hx2, z3⟩ := z
  subst z1
  have hm2 := hm.keep hO z3
  show q_Wp X _ 112 (608, [some (.ref 49), some (.ref 0), some (.ref 34), some (.int (nI i))], [.int v], M1) _
  refine q_Wp.gn 4 (c' := (613, [some (.ref 49), some (.ref 0), some (.ref 34), some (.int (nI i))], [.int (nI i + 1), .ref 49, .ref 34, .int v], M1)) rfl ?_
  refine q_Wp.cv (c' := (613, [some (.ref 49), some (.ref 0), some (.ref 34), some (.int (nI i))], [.int (nI (i + 1)), .ref 49, .ref 34, .int v], M1)) (by rw [show nI i + 1 = nI (i + 1) from law_i i 1]) ?_
  refine q_Wp.ilx rfl rfl rfl (by omega) (by omega) rfl ?_
  show q_Wp X _ 112 (614, [some (.ref 49), some (.ref 0), some (.ref 34), some (.int (nI i))], [.int (X.1 (i + 1)), .ref 34, .int v], M1) _
  refine q_Wp.gp 0 (mj := 103) (as := [.ref 34, .int (X.1 (i + 1))]) (pc := 617) (ls := [some (.ref 49), some (.ref 0), some (.ref 34), some (.int (nI i))]) (st := [.int v]) (M := M1) rfl (hm1 d M1 hm2) (fun r2 M2 z => ?_)
  obtain ⟨z1, hm3, z3⟩ := z
  subst z1
  have hx3 := hx2.keep hO1 z3
  show q_Wp X _ 112 (617, [some (.ref 49), some (.ref 0), some (.ref 34), some (.int (nI i))], [.int v, .int v], M2) _
  refine q_Wp.gd 0 (v = v) (c1 := (701, [some (.ref 49), some (.ref 0), some (.ref 34), some (.int (nI i))], [], M2)) (c2 := (620, [some (.ref 49), some (.ref 0), some (.ref 34), some (.int (nI i))], [], M2)) rfl (fun _ => ?_) (fun z => absurd rfl z)
  exact kk σ1 M2 hO1 hx3 hm3
set_option maxRecDepth 10000 in
theorem law_c18 (X : q_X) (hL : X.2 ≤ 3072) (d : Nat) {i : Nat} (hi : i + 6 ≤ X.2) {σ : q_S} {M : q_M} {P : Option Value → q_M → Prop} (hO : ok_S σ) (hx : x_S σ M) (hm : m_S σ M) (kk : ∀ (σ1 : q_S) (M1 : q_M), ok_S σ1 → x_S σ1 M1 → m_S σ1 M1 → q_Wp X (d + 12) 112 (701, [some (.ref 49), some (.ref 0), some (.ref 34), some (.int (nI i))], [], M1) P) : q_Wp X (d + 12) 112 (622, [some (.ref 49), some (.ref 0), some (.ref 34), some (.int (nI i))], [], M) P := by
  refine q_Wp.gn 4 (c' := (627, [some (.ref 49), some (.ref 0), some (.ref 34), some (.int (nI i))], [.int (nI i + 1), .ref 49, .ref 0], M)) rfl ?_
  refine q_Wp.cv (c' := (627, [some (.ref 49), some (.ref 0), some (.ref 34), some (.int (nI i))], [.int (nI (i + 1)), .ref 49, .ref 0], M)) (by rw [show nI i + 1 = nI (i + 1) from law_i i 1]) ?_
  refine q_Wp.ilx rfl rfl rfl (by omega) (by omega) rfl ?_
  show q_Wp X _ 112 (628, [some (.ref 49), some (.ref 0), some (.ref 34), some (.int (nI i))], [.int (X.1 (i + 1)), .ref 0], M) _
  refine q_Wp.gn 3 (c' := (632, [some (.ref 49), some (.ref 0), some (.ref 34), some (.int (nI i))], [.int (nI i + 2), .ref 49, .int (X.1 (i + 1)), .ref 0], M)) rfl ?_
  refine q_Wp.cv (c' := (632, [some (.ref 49), some (.ref 0), some (.ref 34), some (.int (nI i))], [.int (nI (i + 2)), .ref 49, .int (X.1 (i + 1)), .ref 0], M)) (by rw [show nI i + 2 = nI (i + 2) from law_i i 2]) ?_
  refine q_Wp.ilx rfl rfl rfl (by omega) (by omega) rfl ?_
  show q_Wp X _ 112 (633, [some (.ref 49), some (.ref 0), some (.ref 34), some (.int (nI i))], [.int (X.1 (i + 2)), .int (X.1 (i + 1)), .ref 0], M) _
  obtain ⟨v, σ1, hO1, hx1, hm1⟩ := pr_asked (X := X) hO (X.1 (i + 1)) (X.1 (i + 2))
  refine q_Wp.gp 0 (mj := 46) (as := [.ref 0, .int (X.1 (i + 1)), .int (X.1 (i + 2))]) (pc := 636) (ls := [some (.ref 49), some (.ref 0), some (.ref 34), some (.int (nI i))]) (st := []) (M := M) rfl (hx1 d M hx) (fun r1 M1 z => ?_)
  obtain ⟨z1, hx2, z3⟩ := z
  subst z1
  have hm2 := hm.keep hO z3
  show q_Wp X _ 112 (636, [some (.ref 49), some (.ref 0), some (.ref 34), some (.int (nI i))], [.int v], M1) _
  refine q_Wp.gn 4 (c' := (641, [some (.ref 49), some (.ref 0), some (.ref 34), some (.int (nI i))], [.int (nI i + 1), .ref 49, .ref 34, .int v], M1)) rfl ?_
  refine q_Wp.cv (c' := (641, [some (.ref 49), some (.ref 0), some (.ref 34), some (.int (nI i))], [.int (nI (i + 1)), .ref 49, .ref 34, .int v], M1)) (by rw [show nI i + 1 = nI (i + 1) from law_i i 1]) ?_
  refine q_Wp.ilx rfl rfl rfl (by omega) (by omega) rfl ?_
  show q_Wp X _ 112 (642, [some (.ref 49), some (.ref 0), some (.ref 34), some (.int (nI i))], [.int (X.1 (i + 1)), .ref 34, .int v], M1) _
  refine q_Wp.gn 3 (c' := (646, [some (.ref 49), some (.ref 0), some (.ref 34), some (.int (nI i))], [.int (nI i + 2), .ref 49, .int (X.1 (i + 1)), .ref 34, .int v], M1)) rfl ?_
  refine q_Wp.cv (c' := (646, [some (.ref 49), some (.ref 0), some (.ref 34), some (.int (nI i))], [.int (nI (i + 2)), .ref 49, .int (X.1 (i + 1)), .ref 34, .int v], M1)) (by rw [show nI i + 2 = nI (i + 2) from law_i i 2]) ?_
  refine q_Wp.ilx rfl rfl rfl (by omega) (by omega) rfl ?_
  show q_Wp X _ 112 (647, [some (.ref 49), some (.ref 0), some (.ref 34), some (.int (nI i))], [.int (X.1 (i + 2)), .int (X.1 (i + 1)), .ref 34, .int v], M1) _
  refine q_Wp.gp 0 (mj := 104) (as := [.ref 34, .int (X.1 (i + 1)), .int (X.1 (i + 2))]) (pc := 650) (ls := [some (.ref 49), some (.ref 0), some (.ref 34), some (.int (nI i))]) (st := [.int v]) (M := M1) rfl (hm1 d M1 hm2) (fun r2 M2 z => ?_)
  obtain ⟨z1, hm3, z3⟩ := z
  subst z1
  have hx3 := hx2.keep hO1 z3
  show q_Wp X _ 112 (650, [some (.ref 49), some (.ref 0), some (.ref 34), some (.int (nI i))], [.int v, .int v], M2) _
  refine q_Wp.gd 0 (v = v) (c1 := (701, [some (.ref 49), some (.ref 0), some (.ref 34), some (.int (nI i))], [], M2)) (c2 := (653, [some (.ref 49), some (.ref 0), some (.ref 34), some (.int (nI i))], [], M2)) rfl (fun _ => ?_) (fun z => absurd rfl z)
  exact kk σ1 M2 hO1 hx3 hm3
set_option maxRecDepth 10000 in
theorem law_c19 (X : q_X) (hL : X.2 ≤ 3072) (d : Nat) {i : Nat} (hi : i + 6 ≤ X.2) {σ : q_S} {M : q_M} {P : Option Value → q_M → Prop} (hO : ok_S σ) (hx : x_S σ M) (hm : m_S σ M) (kk : ∀ (σ1 : q_S) (M1 : q_M), ok_S σ1 → x_S σ1 M1 → m_S σ1 M1 → q_Wp X (d + 12) 112 (701, [some (.ref 49), some (.ref 0), some (.ref 34), some (.int (nI i))], [], M1) P) : q_Wp X (d + 12) 112 (655, [some (.ref 49), some (.ref 0), some (.ref 34), some (.int (nI i))], [], M) P := by
  refine q_Wp.gn 4 (c' := (660, [some (.ref 49), some (.ref 0), some (.ref 34), some (.int (nI i))], [.int (nI i + 1), .ref 49, .ref 0], M)) rfl ?_
  refine q_Wp.cv (c' := (660, [some (.ref 49), some (.ref 0), some (.ref 34), some (.int (nI i))], [.int (nI (i + 1)), .ref 49, .ref 0], M)) (by rw [show nI i + 1 = nI (i + 1) from law_i i 1]) ?_
  refine q_Wp.ilx rfl rfl rfl (by omega) (by omega) rfl ?_
  show q_Wp X _ 112 (661, [some (.ref 49), some (.ref 0), some (.ref 34), some (.int (nI i))], [.int (X.1 (i + 1)), .ref 0], M) _
  obtain ⟨v, σ1, hO1, hx1, hm1⟩ := pr_reach (X := X) hO (X.1 (i + 1))
  refine q_Wp.gp 0 (mj := 47) (as := [.ref 0, .int (X.1 (i + 1))]) (pc := 664) (ls := [some (.ref 49), some (.ref 0), some (.ref 34), some (.int (nI i))]) (st := []) (M := M) rfl (hx1 d M hx) (fun r1 M1 z => ?_)
  obtain ⟨z1, hx2, z3⟩ := z
  subst z1
  have hm2 := hm.keep hO z3
  show q_Wp X _ 112 (664, [some (.ref 49), some (.ref 0), some (.ref 34), some (.int (nI i))], [.int v], M1) _
  refine q_Wp.gn 4 (c' := (669, [some (.ref 49), some (.ref 0), some (.ref 34), some (.int (nI i))], [.int (nI i + 1), .ref 49, .ref 34, .int v], M1)) rfl ?_
  refine q_Wp.cv (c' := (669, [some (.ref 49), some (.ref 0), some (.ref 34), some (.int (nI i))], [.int (nI (i + 1)), .ref 49, .ref 34, .int v], M1)) (by rw [show nI i + 1 = nI (i + 1) from law_i i 1]) ?_
  refine q_Wp.ilx rfl rfl rfl (by omega) (by omega) rfl ?_
  show q_Wp X _ 112 (670, [some (.ref 49), some (.ref 0), some (.ref 34), some (.int (nI i))], [.int (X.1 (i + 1)), .ref 34, .int v], M1) _
  refine q_Wp.gp 0 (mj := 108) (as := [.ref 34, .int (X.1 (i + 1))]) (pc := 673) (ls := [some (.ref 49), some (.ref 0), some (.ref 34), some (.int (nI i))]) (st := [.int v]) (M := M1) rfl (hm1 d M1 hm2) (fun r2 M2 z => ?_)
  obtain ⟨z1, hm3, z3⟩ := z
  subst z1
  have hx3 := hx2.keep hO1 z3
  show q_Wp X _ 112 (673, [some (.ref 49), some (.ref 0), some (.ref 34), some (.int (nI i))], [.int v, .int v], M2) _
  refine q_Wp.gd 0 (v = v) (c1 := (701, [some (.ref 49), some (.ref 0), some (.ref 34), some (.int (nI i))], [], M2)) (c2 := (676, [some (.ref 49), some (.ref 0), some (.ref 34), some (.int (nI i))], [], M2)) rfl (fun _ => ?_) (fun z => absurd rfl z)
  exact kk σ1 M2 hO1 hx3 hm3
set_option maxRecDepth 10000 in
theorem law_c20 (X : q_X) (hL : X.2 ≤ 3072) (d : Nat) {i : Nat} (hi : i + 6 ≤ X.2) {σ : q_S} {M : q_M} {P : Option Value → q_M → Prop} (hO : ok_S σ) (hx : x_S σ M) (hm : m_S σ M) (kk : ∀ (σ1 : q_S) (M1 : q_M), ok_S σ1 → x_S σ1 M1 → m_S σ1 M1 → q_Wp X (d + 12) 112 (701, [some (.ref 49), some (.ref 0), some (.ref 34), some (.int (nI i))], [], M1) P) : q_Wp X (d + 12) 112 (678, [some (.ref 49), some (.ref 0), some (.ref 34), some (.int (nI i))], [], M) P := by
  refine q_Wp.gn 4 (c' := (683, [some (.ref 49), some (.ref 0), some (.ref 34), some (.int (nI i))], [.int (nI i + 1), .ref 49, .ref 0], M)) rfl ?_
  refine q_Wp.cv (c' := (683, [some (.ref 49), some (.ref 0), some (.ref 34), some (.int (nI i))], [.int (nI (i + 1)), .ref 49, .ref 0], M)) (by rw [show nI i + 1 = nI (i + 1) from law_i i 1]) ?_
  refine q_Wp.ilx rfl rfl rfl (by omega) (by omega) rfl ?_
  show q_Wp X _ 112 (684, [some (.ref 49), some (.ref 0), some (.ref 34), some (.int (nI i))], [.int (X.1 (i + 1)), .ref 0], M) _
  obtain ⟨v, σ1, hO1, hx1, hm1⟩ := pr_count (X := X) hO (X.1 (i + 1))
  refine q_Wp.gp 0 (mj := 48) (as := [.ref 0, .int (X.1 (i + 1))]) (pc := 687) (ls := [some (.ref 49), some (.ref 0), some (.ref 34), some (.int (nI i))]) (st := []) (M := M) rfl (hx1 d M hx) (fun r1 M1 z => ?_)
  obtain ⟨z1, hx2, z3⟩ := z
  subst z1
  have hm2 := hm.keep hO z3
  show q_Wp X _ 112 (687, [some (.ref 49), some (.ref 0), some (.ref 34), some (.int (nI i))], [.int v], M1) _
  refine q_Wp.gn 4 (c' := (692, [some (.ref 49), some (.ref 0), some (.ref 34), some (.int (nI i))], [.int (nI i + 1), .ref 49, .ref 34, .int v], M1)) rfl ?_
  refine q_Wp.cv (c' := (692, [some (.ref 49), some (.ref 0), some (.ref 34), some (.int (nI i))], [.int (nI (i + 1)), .ref 49, .ref 34, .int v], M1)) (by rw [show nI i + 1 = nI (i + 1) from law_i i 1]) ?_
  refine q_Wp.ilx rfl rfl rfl (by omega) (by omega) rfl ?_
  show q_Wp X _ 112 (693, [some (.ref 49), some (.ref 0), some (.ref 34), some (.int (nI i))], [.int (X.1 (i + 1)), .ref 34, .int v], M1) _
  refine q_Wp.gp 0 (mj := 109) (as := [.ref 34, .int (X.1 (i + 1))]) (pc := 696) (ls := [some (.ref 49), some (.ref 0), some (.ref 34), some (.int (nI i))]) (st := [.int v]) (M := M1) rfl (hm1 d M1 hm2) (fun r2 M2 z => ?_)
  obtain ⟨z1, hm3, z3⟩ := z
  subst z1
  have hx3 := hx2.keep hO1 z3
  show q_Wp X _ 112 (696, [some (.ref 49), some (.ref 0), some (.ref 34), some (.int (nI i))], [.int v, .int v], M2) _
  refine q_Wp.gd 0 (v = v) (c1 := (701, [some (.ref 49), some (.ref 0), some (.ref 34), some (.int (nI i))], [], M2)) (c2 := (699, [some (.ref 49), some (.ref 0), some (.ref 34), some (.int (nI i))], [], M2)) rfl (fun _ => ?_) (fun z => absurd rfl z)
  exact kk σ1 M2 hO1 hx3 hm3
theorem law_cmp {L i : Nat} (hL : L ≤ 3072) (hi : i ≤ L + 6) : nI L - 6 < nI i ↔ L < i + 6 := by
  have h6 : (6 : Int32).toInt = 6 := rfl
  have e : (nI L - 6).toInt = (L : Int) - 6 := by
    rw [Int32.toInt_sub, nI_toInt (by omega), h6]
    refine Int.bmod_eq_of_le ?_ ?_ <;> omega
  rw [Int32.lt_iff_toInt_lt, e, nI_toInt (by omega)]
  omega
set_option maxRecDepth 10000 in
theorem law_out (X : q_X) (hL : X.2 ≤ 3072) (d : Nat) {i : Nat} {M : q_M} (h6 : X.2 < i + 6) (hi : i ≤ X.2 + 6) : q_Wp X (d + 12) 112 (18, [some (.ref 49), some (.ref 0), some (.ref 34), some (.int (nI i))], [], M) (fun r _ => r = some (.int 1)) := by
  refine q_Wp.gn 4 (c' := (24, [some (.ref 49), some (.ref 0), some (.ref 34), some (.int (nI i))], [.int (nI X.2 - 6), .int (nI i)], M)) rfl ?_
  refine q_Wp.gd 0 (nI X.2 - 6 < nI i) (c1 := (707, [some (.ref 49), some (.ref 0), some (.ref 34), some (.int (nI i))], [], M)) (c2 := (27, [some (.ref 49), some (.ref 0), some (.ref 34), some (.int (nI i))], [], M)) rfl (fun _ => ?_) (fun z => absurd ((law_cmp hL hi).mpr h6) z)
  refine q_Wp.gn 0 (c' := (708, [some (.ref 49), some (.ref 0), some (.ref 34), some (.int (nI i))], [.int 1], M)) rfl ?_
  exact q_Wp.zr rfl rfl (Or.inr rfl) rfl
set_option maxRecDepth 10000 in
theorem law_run (X : q_X) (hL : X.2 ≤ 3072) (d : Nat) : ∀ (k i : Nat) (σ : q_S) (M : q_M), X.2 + 6 - i ≤ k → i ≤ X.2 + 6 → ok_S σ → x_S σ M → m_S σ M → q_Wp X (d + 12) 112 (18, [some (.ref 49), some (.ref 0), some (.ref 34), some (.int (nI i))], [], M) (fun r _ => r = some (.int 1)) := by
  intro k
  induction k with
  | zero =>
    intro i σ M hk hi hO hx hm
    exact law_out X hL d (by omega) (by omega)
  | succ k ih =>
    intro i σ M hk hi hO hx hm
    by_cases h6 : X.2 < i + 6
    · exact law_out X hL d h6 hi
    · have hi6 : i + 6 ≤ X.2 := by omega
      have hgo : ∀ (σ1 : q_S) (M1 : q_M), ok_S σ1 → x_S σ1 M1 → m_S σ1 M1 → q_Wp X (d + 12) 112 (701, [some (.ref 49), some (.ref 0), some (.ref 34), some (.int (nI i))], [], M1) (fun r _ => r = some (.int 1)) := by
        intro σ1 M1 hO1 hx1 hm1
        refine q_Wp.gn 1 (c' := (18, [some (.ref 49), some (.ref 0), some (.ref 34), some (.int (nI i + 6))], [], M1)) rfl ?_
        refine q_Wp.cv (c' := (18, [some (.ref 49), some (.ref 0), some (.ref 34), some (.int (nI (i + 6)))], [], M1)) (by rw [show nI i + 6 = nI (i + 6) from law_i i 6]) ?_
        exact ih (i + 6) σ1 M1 (by omega) (by omega) hO1 hx1 hm1
      refine q_Wp.gn 4 (c' := (24, [some (.ref 49), some (.ref 0), some (.ref 34), some (.int (nI i))], [.int (nI X.2 - 6), .int (nI i)], M)) rfl ?_
      refine q_Wp.gd 0 (nI X.2 - 6 < nI i) (c1 := (707, [some (.ref 49), some (.ref 0), some (.ref 34), some (.int (nI i))], [], M)) (c2 := (27, [some (.ref 49), some (.ref 0), some (.ref 34), some (.int (nI i))], [], M)) rfl (fun z => absurd ((law_cmp hL hi).mp z) h6) (fun _ => ?_)
      refine q_Wp.gn 1 (c' := (29, [some (.ref 49), some (.ref 0), some (.ref 34), some (.int (nI i))], [.int (nI i), .ref 49], M)) rfl ?_
      refine q_Wp.ilx rfl rfl rfl (by omega) (by omega) rfl ?_
      show q_Wp X _ 112 (30, [some (.ref 49), some (.ref 0), some (.ref 34), some (.int (nI i))], [.int (X.1 i)], M) _
      refine q_Wp.gn 1 (c' := (33, [some (.ref 49), some (.ref 0), some (.ref 34), some (.int (nI i))], [.int (X.1 i &&& 31)], M)) rfl ?_
      generalize X.1 i &&& 31 = x
      by_cases h0 : x = 0
      · subst h0
        refine q_Wp.gn 0 (c' := (132, [some (.ref 49), some (.ref 0), some (.ref 34), some (.int (nI i))], [], M)) rfl ?_
        exact law_c0 X hL d hi6 hO hx hm hgo
      by_cases h1 : x = 1
      · subst h1
        refine q_Wp.gn 0 (c' := (195, [some (.ref 49), some (.ref 0), some (.ref 34), some (.int (nI i))], [], M)) rfl ?_
        exact law_c1 X hL d hi6 hO hx hm hgo
      by_cases h2 : x = 2
      · subst h2
        refine q_Wp.gn 0 (c' := (238, [some (.ref 49), some (.ref 0), some (.ref 34), some (.int (nI i))], [], M)) rfl ?_
        exact law_c2 X hL d hi6 hO hx hm hgo
      by_cases h3 : x = 3
      · subst h3
        refine q_Wp.gn 0 (c' := (261, [some (.ref 49), some (.ref 0), some (.ref 34), some (.int (nI i))], [], M)) rfl ?_
        exact law_c3 X hL d hi6 hO hx hm hgo
      by_cases h4 : x = 4
      · subst h4
        refine q_Wp.gn 0 (c' := (304, [some (.ref 49), some (.ref 0), some (.ref 34), some (.int (nI i))], [], M)) rfl ?_
        exact law_c4 X hL d hi6 hO hx hm hgo
      by_cases h5 : x = 5
      · subst h5
        refine q_Wp.gn 0 (c' := (337, [some (.ref 49), some (.ref 0), some (.ref 34), some (.int (nI i))], [], M)) rfl ?_
        exact law_c5 X hL d hi6 hO hx hm hgo
      by_cases h6 : x = 6
      · subst h6
        refine q_Wp.gn 0 (c' := (370, [some (.ref 49), some (.ref 0), some (.ref 34), some (.int (nI i))], [], M)) rfl ?_
        exact law_c6 X hL d hi6 hO hx hm hgo
      by_cases h7 : x = 7
      · subst h7
        refine q_Wp.gn 0 (c' := (403, [some (.ref 49), some (.ref 0), some (.ref 34), some (.int (nI i))], [], M)) rfl ?_
        exact law_c7 X hL d hi6 hO hx hm hgo
      by_cases h8 : x = 8
      · subst h8
        refine q_Wp.gn 0 (c' := (416, [some (.ref 49), some (.ref 0), some (.ref 34), some (.int (nI i))], [], M)) rfl ?_
        exact law_c8 X hL d hi6 hO hx hm hgo
      by_cases h9 : x = 9
      · subst h9
        refine q_Wp.gn 0 (c' := (429, [some (.ref 49), some (.ref 0), some (.ref 34), some (.int (nI i))], [], M)) rfl ?_
        exact law_c9 X hL d hi6 hO hx hm hgo
      by_cases h10 : x = 10
      · subst h10
        refine q_Wp.gn 0 (c' := (442, [some (.ref 49), some (.ref 0), some (.ref 34), some (.int (nI i))], [], M)) rfl ?_
        exact law_c10 X hL d hi6 hO hx hm hgo
      by_cases h11 : x = 11
      · subst h11
        refine q_Wp.gn 0 (c' := (491, [some (.ref 49), some (.ref 0), some (.ref 34), some (.int (nI i))], [], M)) rfl ?_
        exact law_c11 X hL d hi6 hO hx hm hgo
      by_cases h12 : x = 12
      · subst h12
        refine q_Wp.gn 0 (c' := (504, [some (.ref 49), some (.ref 0), some (.ref 34), some (.int (nI i))], [], M)) rfl ?_
        exact law_c12 X hL d hi6 hO hx hm hgo
      by_cases h13 : x = 13
      · subst h13
        refine q_Wp.gn 0 (c' := (517, [some (.ref 49), some (.ref 0), some (.ref 34), some (.int (nI i))], [], M)) rfl ?_
        exact law_c13 X hL d hi6 hO hx hm hgo
      by_cases h14 : x = 14
      · subst h14
        refine q_Wp.gn 0 (c' := (530, [some (.ref 49), some (.ref 0), some (.ref 34), some (.int (nI i))], [], M)) rfl ?_
        exact law_c14 X hL d hi6 hO hx hm hgo
      by_cases h15 : x = 15
      · subst h15
        refine q_Wp.gn 0 (c' := (553, [some (.ref 49), some (.ref 0), some (.ref 34), some (.int (nI i))], [], M)) rfl ?_
        exact law_c15 X hL d hi6 hO hx hm hgo
      by_cases h16 : x = 16
      · subst h16
        refine q_Wp.gn 0 (c' := (586, [some (.ref 49), some (.ref 0), some (.ref 34), some (.int (nI i))], [], M)) rfl ?_
        exact law_c16 X hL d hi6 hO hx hm hgo
      by_cases h17 : x = 17
      · subst h17
        refine q_Wp.gn 0 (c' := (599, [some (.ref 49), some (.ref 0), some (.ref 34), some (.int (nI i))], [], M)) rfl ?_
        exact law_c17 X hL d hi6 hO hx hm hgo
      by_cases h18 : x = 18
      · subst h18
        refine q_Wp.gn 0 (c' := (622, [some (.ref 49), some (.ref 0), some (.ref 34), some (.int (nI i))], [], M)) rfl ?_
        exact law_c18 X hL d hi6 hO hx hm hgo
      by_cases h19 : x = 19
      · subst h19
        refine q_Wp.gn 0 (c' := (655, [some (.ref 49), some (.ref 0), some (.ref 34), some (.int (nI i))], [], M)) rfl ?_
        exact law_c19 X hL d hi6 hO hx hm hgo
      by_cases h20 : x = 20
      · subst h20
        refine q_Wp.gn 0 (c' := (678, [some (.ref 49), some (.ref 0), some (.ref 34), some (.int (nI i))], [], M)) rfl ?_
        exact law_c20 X hL d hi6 hO hx hm hgo
      have n0 := q_i_ne (n := 0) _ rfl h0
      have n1 := q_i_ne (n := 1) _ rfl h1
      have n2 := q_i_ne (n := 2) _ rfl h2
      have n3 := q_i_ne (n := 3) _ rfl h3
      have n4 := q_i_ne (n := 4) _ rfl h4
      have n5 := q_i_ne (n := 5) _ rfl h5
      have n6 := q_i_ne (n := 6) _ rfl h6
      have n7 := q_i_ne (n := 7) _ rfl h7
      have n8 := q_i_ne (n := 8) _ rfl h8
      have n9 := q_i_ne (n := 9) _ rfl h9
      have n10 := q_i_ne (n := 10) _ rfl h10
      have n11 := q_i_ne (n := 11) _ rfl h11
      have n12 := q_i_ne (n := 12) _ rfl h12
      have n13 := q_i_ne (n := 13) _ rfl h13
      have n14 := q_i_ne (n := 14) _ rfl h14
      have n15 := q_i_ne (n := 15) _ rfl h15
      have n16 := q_i_ne (n := 16) _ rfl h16
      have n17 := q_i_ne (n := 17) _ rfl h17
      have n18 := q_i_ne (n := 18) _ rfl h18
      have n19 := q_i_ne (n := 19) _ rfl h19
      have n20 := q_i_ne (n := 20) _ rfl h20
      exact q_Wp.sw rfl rfl (by omega) (hgo σ M hO hx hm)
