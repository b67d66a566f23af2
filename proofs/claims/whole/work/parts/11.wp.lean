/-! Runs with an end that is told by a property. -/
def q_Wp (X : q_X) (d mi : Nat) (c : q_F) (P : Option Value → q_M → Prop) : Prop := ∃ r M', q_Rn X d mi c r M' ∧ P r M'
def q_Ep (X : q_X) (d mi : Nat) (as : List Value) (M : q_M) (P : Option Value → q_M → Prop) : Prop := ∃ r M', q_Ev X d mi as M r M' ∧ P r M'
section QWP
variable {X : q_X} {d mi : Nat} {c c' c1 c2 : q_F} {P : Option Value → q_M → Prop}
theorem q_Wp.gn (n : Nat) (h : q_go X mi n c = some (.inl c')) (k : q_Wp X d mi c' P) : q_Wp X d mi c P := by
  obtain ⟨r, M', k, hp⟩ := k
  exact ⟨r, M', q_Rn.gn n h k, hp⟩
theorem q_Wp.cv (h : c = c') (k : q_Wp X d mi c' P) : q_Wp X d mi c P := h ▸ k
theorem q_Wp.gd (n : Nat) (B : Prop) {hd : Decidable B} (h : q_go X mi n c = some (.inl (bif (@decide B hd) then c1 else c2))) (k1 : B → q_Wp X d mi c1 P) (k2 : ¬ B → q_Wp X d mi c2 P) : q_Wp X d mi c P := by
  by_cases hB : B
  · obtain ⟨r, M', k, hp⟩ := k1 hB
    exact ⟨r, M', q_Rn.gd n B h (fun _ => k) (fun z => absurd hB z), hp⟩
  · obtain ⟨r, M', k, hp⟩ := k2 hB
    exact ⟨r, M', q_Rn.gd n B h (fun z => absurd z hB) (fun _ => k), hp⟩
theorem q_Wp.gi (n : Nat) (B : Prop) {hd : Decidable B} (h : q_go X mi n c = (@ite _ B hd none (some (.inl c1)))) (hB : ¬ B) (k1 : q_Wp X d mi c1 P) : q_Wp X d mi c P := by
  obtain ⟨r, M', k, hp⟩ := k1
  exact ⟨r, M', q_Rn.gi n B h hB k, hp⟩
theorem q_Wp.ge0 (n : Nat) {b : Bool} {hd : Decidable (q_b b = 0)} (h : q_go X mi n c = some (.inl (bif (@decide (q_b b = 0) hd) then c1 else c2))) (k1 : b = false → q_Wp X d mi c1 P) (k2 : b = true → q_Wp X d mi c2 P) : q_Wp X d mi c P := by
  cases b with
  | false => exact q_Wp.gd n (q_b false = 0) h (fun _ => k1 rfl) (fun z => absurd rfl z)
  | true => exact q_Wp.gd n (q_b true = 0) h (fun z => absurd ((q_b0 true).mp z) (by decide)) (fun _ => k2 rfl)
theorem q_Wp.gn0 (n : Nat) {b : Bool} {hd : Decidable (¬ q_b b = 0)} (h : q_go X mi n c = some (.inl (bif (@decide (¬ q_b b = 0) hd) then c1 else c2))) (k1 : b = true → q_Wp X d mi c1 P) (k2 : b = false → q_Wp X d mi c2 P) : q_Wp X d mi c P := by
  cases b with
  | false => exact q_Wp.gd n (¬ q_b false = 0) h (fun z => absurd rfl z) (fun _ => k2 rfl)
  | true => exact q_Wp.gd n (¬ q_b true = 0) h (fun _ => k1 rfl) (fun z => absurd (fun y => absurd ((q_b0 true).mp y) (by decide)) z)
theorem q_Wp.gc (n : Nat) {mj : Nat} {as : List Value} {pc : Nat} {ls : q_L} {st : List Value} {M M1 : q_M} {r1 : Option Value} (h : q_go X mi n c = some (.inr (.inl (mj, as, (pc, ls, st, M))))) (hE : q_Ev X d mj as M r1 M1) (k : q_Wp X d mi (pc, ls, r1.toList ++ st, M1) P) : q_Wp X d mi c P := by
  obtain ⟨r, M', k, hp⟩ := k
  exact ⟨r, M', q_Rn.gc n h hE k, hp⟩
theorem q_Wp.gp (n : Nat) {mj : Nat} {as : List Value} {pc : Nat} {ls : q_L} {st : List Value} {M : q_M} {P1 : Option Value → q_M → Prop} (h : q_go X mi n c = some (.inr (.inl (mj, as, (pc, ls, st, M))))) (hE : q_Ep X d mj as M P1) (k : ∀ r1 M1, P1 r1 M1 → q_Wp X d mi (pc, ls, r1.toList ++ st, M1) P) : q_Wp X d mi c P := by
  obtain ⟨r1, M1, hE, h1⟩ := hE
  exact q_Wp.gc n h hE (k r1 M1 h1)
theorem q_Wp.rt {r : Option Value} {M' : q_M} (h : q_act X mi c = some (.inr (.inr r))) (hM : c.2.2.2 = M') (hp : P r M') : q_Wp X d mi c P := ⟨r, M', q_Rn.rt h hM, hp⟩
theorem q_Wp.zr {pc : Nat} {ls : q_L} {M : q_M} {x : Int32} (h : q_cd mi pc = some (.ireturn, 0)) (hk : q_rk mi = 1) (h01 : x = 0 ∨ x = 1) (hp : P (some (.int x)) M) : q_Wp X d mi (pc, ls, [.int x], M) P := ⟨_, _, q_zret h hk h01 rfl rfl, hp⟩
theorem q_Wp.sw {pc ex t : Nat} {dd lo hi : Int} {os : Array Int} {x : Int32} {ls : q_L} {st : List Value} {M : q_M} (h : q_cd mi pc = some (.tableswitch dd lo hi os, ex)) (ht : ((pc : Int) + dd).toNat = t) (hx : x.toInt < lo ∨ hi < x.toInt) (k : q_Wp X d mi (t, ls, st, M) P) : q_Wp X d mi (pc, ls, .int x :: st, M) P := by
  obtain ⟨r, M', k, hp⟩ := k
  exact ⟨r, M', q_swd h ht hx k, hp⟩
section QWL
variable {pc i n b : Nat} {ls : q_L} {st : List Value} {M : q_M} {x v : Int32} {r : Nat}
theorem q_Wp.ild (h : q_cd mi pc = some (.iaload, 0)) (hk : q_kd r = (1, n, b)) (hx : x = nI i) (hi : i < n) (hn : n < 2 ^ 31) (k : q_Wp X d mi (pc + 1, ls, .int (M.1 r i) :: st, M) P) : q_Wp X d mi (pc, ls, .int x :: .ref r :: st, M) P := by
  obtain ⟨r, M', k, hp⟩ := k
  exact ⟨r, M', q_ild h hk hx hi hn k, hp⟩
theorem q_Wp.zld (h : q_cd mi pc = some (.baload, 0)) (hk : q_kd r = (2, n, b)) (hx : x = nI i) (hi : i < n) (hn : n < 2 ^ 31) (k : q_Wp X d mi (pc + 1, ls, .int (M.1 r i) :: st, M) P) : q_Wp X d mi (pc, ls, .int x :: .ref r :: st, M) P := by
  obtain ⟨r, M', k, hp⟩ := k
  exact ⟨r, M', q_zld h hk hx hi hn k, hp⟩
theorem q_Wp.rld (h : q_cd mi pc = some (.aaload, 0)) (hk : q_kd r = (3, n, b)) (hx : x = nI i) (hi : i < n) (hn : n < 2 ^ 31) (k : q_Wp X d mi (pc + 1, ls, .ref (b + i) :: st, M) P) : q_Wp X d mi (pc, ls, .int x :: .ref r :: st, M) P := by
  obtain ⟨r, M', k, hp⟩ := k
  exact ⟨r, M', q_rld h hk hx hi hn k, hp⟩
theorem q_Wp.ist (h : q_cd mi pc = some (.iastore, 0)) (hk : q_kd r = (1, n, b)) (hx : x = nI i) (hi : i < n) (hn : n < 2 ^ 31) (k : q_Wp X d mi (pc + 1, ls, st, q_up M r i v) P) : q_Wp X d mi (pc, ls, .int v :: .int x :: .ref r :: st, M) P := by
  obtain ⟨r, M', k, hp⟩ := k
  exact ⟨r, M', q_ist h hk hx hi hn k, hp⟩
theorem q_Wp.zst (h : q_cd mi pc = some (.bastore, 0)) (hk : q_kd r = (2, n, b)) (hx : x = nI i) (hi : i < n) (hn : n < 2 ^ 31) (hv : v = 0 ∨ v = 1) (k : q_Wp X d mi (pc + 1, ls, st, q_up M r i v) P) : q_Wp X d mi (pc, ls, .int v :: .int x :: .ref r :: st, M) P := by
  obtain ⟨r, M', k, hp⟩ := k
  exact ⟨r, M', q_zst h hk hx hi hn hv k, hp⟩
theorem q_Wp.ilx (h : q_cd mi pc = some (.iaload, 0)) (hk : q_kd 49 = (4, 0, 0)) (hx : x = nI i) (hi : i < X.2) (hn : X.2 < 2 ^ 31) (hm : mi = 112) (k : q_Wp X d mi (pc + 1, ls, .int (X.1 i) :: st, M) P) : q_Wp X d mi (pc, ls, .int x :: .ref 49 :: st, M) P := by
  subst hx
  subst hm
  have h1 : q_outD (nI i) X.2 = false := by
    unfold q_outD
    rw [nI_clamp (Nat.lt_trans hi hn), decide_eq_false (nI_pos (Nat.lt_trans hi hn))]
    cases hz : Nat.ble X.2 i with
    | false => rfl
    | true => exact absurd (Nat.ble_eq.mp hz) (by omega)
  refine q_Wp.gn 0 (c' := (pc + 1, ls, .int (X.1 i) :: st, M)) ?_ k
  simp only [q_go, q_act, h, hk, h1, nI_clamp (Nat.lt_trans hi hn), Bool.false_or]
  rfl
end QWL
theorem q_Ev.ofW {as : List Value} {M M2 : q_M} {R : Option Value} (hl : Nat.ble (q_as as).length (q_mx mi) = true) (k : q_Wp X d mi (0, q_en mi as, [], M) (fun r M' => r = R ∧ M' = M2)) : q_Ev X (d + 1) mi as M R M2 := by
  obtain ⟨r, M', k, rfl, rfl⟩ := k
  exact q_Ev.of hl k
theorem q_Ep.ofW {as : List Value} {M : q_M} (hl : Nat.ble (q_as as).length (q_mx mi) = true) (k : q_Wp X d mi (0, q_en mi as, [], M) P) : q_Ep X (d + 1) mi as M P := by
  obtain ⟨r, M', k, hp⟩ := k
  exact ⟨r, M', q_Ev.of hl k, hp⟩
theorem q_Wp.mono {P2 : Option Value → q_M → Prop} (h : ∀ r M', P r M' → P2 r M') (k : q_Wp X d mi c P) : q_Wp X d mi c P2 := by
  obtain ⟨r, M', k, hp⟩ := k
  exact ⟨r, M', k, h r M' hp⟩
end QWP
