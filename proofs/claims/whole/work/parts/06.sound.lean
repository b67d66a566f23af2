/-! The machine is the JVM's: what an instruction does there, W does (over the kit's rows). -/
abbrev q_G : Type := (Nat → Nat) × ClassId × ClassId × ClassId
def q_v (ad : Nat → Nat) (v : Value) : Value := match v with
  | .ref i => .ref (ad i)
  | v => v
theorem q_vcat (ad : Nat → Nat) (v : Value) : (q_v ad v).category = v.category := by cases v <;> rfl
def q_LS (ad : Nat → Nat) (nL : Nat) (ls : q_L) (cls : Array Slot) : Prop := ∃ l, lv_has cls nL l ∧ ∀ i v, q_ld ls i = some v → (i, q_v ad v) ∈ l
theorem q_lds {ad : Nat → Nat} {nL : Nat} {ls : q_L} {cls : Array Slot} {i : Nat} {v : Value} (h : q_LS ad nL ls cls) (hv : q_ld ls i = some v) : cls[i]? = some (.val (q_v ad v)) := by
  obtain ⟨l, h1, h2⟩ := h
  exact h1.2.2 _ (h2 i v hv)
theorem q_ld_z (x : Option Value) (t : q_L) : q_ld (x :: t) 0 = x := rfl
theorem q_ld_s (x : Option Value) (t : q_L) (n : Nat) : q_ld (x :: t) (n + 1) = q_ld t n := rfl
theorem q_ld_n (n : Nat) : q_ld [] n = none := rfl
theorem q_keep_some {x : Option Value} {v : Value} (h : q_keep x = some v) : x = some v ∧ ¬ v.category = 2 := by
  unfold q_keep at h
  split at h
  · cases h
  · cases h
  · subst h
    refine ⟨rfl, fun hc => ?_⟩
    cases v <;> simp_all [Value.category]
theorem q_s1_ld : ∀ (ls : q_L) (k : Nat) (w : Value) (i : Nat) (v : Value), q_ld (q_s1 ls k w) i = some v → (i = k ∧ v = w) ∨ (i ≠ k ∧ q_ld ls i = some v ∧ ¬ (i + 1 = k ∧ v.category = 2)) := by
  intro ls
  induction ls with
  | nil => intro k w i v h; cases k <;> cases h
  | cons x t ih =>
    intro k w i v h
    match k, i with
    | 0, 0 => exact Or.inl ⟨rfl, (Option.some.inj h).symm⟩
    | 0, i + 1 => exact Or.inr ⟨by omega, h, by omega⟩
    | 1, 0 =>
      have h1 : q_keep x = some v := h
      exact Or.inr ⟨by omega, (q_keep_some h1).1, fun z => (q_keep_some h1).2 z.2⟩
    | 1, i + 1 =>
      rcases ih 0 w i v h with ⟨a, b⟩ | ⟨a, b, c⟩
      · exact Or.inl ⟨by omega, b⟩
      · exact Or.inr ⟨by omega, b, by omega⟩
    | k + 2, 0 => exact Or.inr ⟨by omega, h, by omega⟩
    | k + 2, i + 1 =>
      rcases ih (k + 1) w i v h with ⟨a, b⟩ | ⟨a, b, c⟩
      · exact Or.inl ⟨by omega, b⟩
      · exact Or.inr ⟨by omega, b, fun z => c ⟨by omega, z.2⟩⟩
theorem q_s2_ld : ∀ (ls : q_L) (k : Nat) (w : Value) (i : Nat) (v : Value), q_ld (q_s2 ls k w) i = some v → (i = k ∧ v = w) ∨ (i ≠ k ∧ i ≠ k + 1 ∧ q_ld ls i = some v ∧ ¬ (i + 1 = k ∧ v.category = 2)) := by
  intro ls
  induction ls with
  | nil => intro k w i v h; cases k <;> cases h
  | cons x t ih =>
    intro k w i v h
    match k, i with
    | 0, 0 =>
      cases t with
      | nil => cases h
      | cons y t => exact Or.inl ⟨rfl, (Option.some.inj h).symm⟩
    | 0, 1 =>
      cases t with
      | nil => cases h
      | cons y t => cases h
    | 0, i + 2 =>
      cases t with
      | nil => cases h
      | cons y t => exact Or.inr ⟨by omega, by omega, h, by omega⟩
    | 1, 0 =>
      have h1 : q_keep x = some v := by cases t <;> exact h
      exact Or.inr ⟨by omega, by omega, (q_keep_some h1).1, fun z => (q_keep_some h1).2 z.2⟩
    | 1, i + 1 =>
      have h2 : q_ld (q_s2 t 0 w) i = some v := by cases t <;> exact h
      rcases ih 0 w i v h2 with ⟨a, b⟩ | ⟨a, a2, b, c⟩
      · exact Or.inl ⟨by omega, b⟩
      · exact Or.inr ⟨by omega, by omega, b, by omega⟩
    | k + 2, 0 =>
      have h2 : q_ld (x :: t) 0 = some v := by cases t <;> exact h
      exact Or.inr ⟨by omega, by omega, h2, by omega⟩
    | k + 2, i + 1 =>
      have h2 : q_ld (q_s2 t (k + 1) w) i = some v := by cases t <;> exact h
      rcases ih (k + 1) w i v h2 with ⟨a, b⟩ | ⟨a, a2, b, c⟩
      · exact Or.inl ⟨by omega, b⟩
      · exact Or.inr ⟨by omega, by omega, b, fun z => c ⟨by omega, z.2⟩⟩
theorem q_LS1 {ad : Nat → Nat} {nL : Nat} {ls : q_L} {l : List (Nat × Value)} {cls' : Array Slot} {k : Nat} {w : Value} (hl : ∀ i v, q_ld ls i = some v → (i, q_v ad v) ∈ l) (h : lv_has cls' nL ((k, q_v ad w) :: l.filter (fun q => !(q.1 == k) && !(q.1 + 1 == k && q.2.category == 2)))) : q_LS ad nL (q_s1 ls k w) cls' := by
  refine ⟨_, h, fun i v hv => ?_⟩
  rcases q_s1_ld ls k w i v hv with ⟨a, b⟩ | ⟨a, b, c⟩
  · rw [a, b]; exact List.mem_cons_self
  · refine List.mem_cons_of_mem _ (List.mem_filter.mpr ⟨hl i v b, ?_⟩)
    simp only [q_vcat]
    by_cases h1 : i + 1 = k
    · have : ¬ v.category = 2 := fun z => c ⟨h1, z⟩
      simp [a, this]
    · simp [a, h1]
theorem q_LS2 {ad : Nat → Nat} {nL : Nat} {ls : q_L} {l : List (Nat × Value)} {cls' : Array Slot} {k : Nat} {w : Value} (hl : ∀ i v, q_ld ls i = some v → (i, q_v ad v) ∈ l) (h : lv_has cls' nL ((k, q_v ad w) :: l.filter (fun q => !(q.1 == k) && (!(q.1 == k + 1) && !(q.1 + 1 == k && q.2.category == 2))))) : q_LS ad nL (q_s2 ls k w) cls' := by
  refine ⟨_, h, fun i v hv => ?_⟩
  rcases q_s2_ld ls k w i v hv with ⟨a, b⟩ | ⟨a, a2, b, c⟩
  · rw [a, b]; exact List.mem_cons_self
  · refine List.mem_cons_of_mem _ (List.mem_filter.mpr ⟨hl i v b, ?_⟩)
    simp only [q_vcat]
    by_cases h1 : i + 1 = k
    · have : ¬ v.category = 2 := fun z => c ⟨h1, z⟩
      simp [a, a2, this]
    · simp [a, a2, h1]
-- the world
def q_fv (ad : Nat → Nat) (M : q_M) (r c k : Nat) : Value := match (q_fk c k).1 with
  | 2 => .long (M.2 r k)
  | 3 => .ref (ad (q_fk c k).2)
  | _ => .int (M.1 r k)
def q_fs (ad : Nat → Nat) (M : q_M) (r c : Nat) : List Value := (List.range (q_nf c)).map (q_fv ad M r c)
def q_ce (g : q_G) (M : q_M) (i : Nat) : va_E := match (q_kd i).1 with
  | 0 => .inr ((q_kd i).2.1, q_fs g.1 M i (q_kd i).2.1)
  | 1 => .inl (g.2.1, (q_kd i).2.1, .inl (M.1 i))
  | 2 => .inl (g.2.2.1, (q_kd i).2.1, .inl (M.1 i))
  | _ => .inl (g.2.2.2, (q_kd i).2.1, .inr (.inr (.inr (.inr (fun j => some (g.1 ((q_kd i).2.2 + j)))))))
def q_W (g : q_G) (M : q_M) : va_W := (List.range 49).map (fun i => (g.1 i, q_ce g M i))
def q_Y (g : q_G) : List (ClassId × FieldType) := [(g.2.1, .int), (g.2.2.1, .boolean), (g.2.2.2, .array .int)]
theorem q_W_at (g : q_G) (M : q_M) {i : Nat} (h : i < 49) : (q_W g M)[i]? = some (g.1 i, q_ce g M i) := by
  simp [q_W, h]
theorem q_W_out (g : q_G) (M : q_M) {i : Nat} (h : 49 ≤ i) : (q_W g M)[i]? = none := by
  simp [q_W, h]
theorem q_W_len (g : q_G) (M : q_M) : (q_W g M).length = 49 := by simp [q_W]
theorem q_W_D {g : q_G} {M M' : q_M} {A : Nat → Prop} (h : va_D A (q_W g M)) : va_D A (q_W g M') := by
  have key : ∀ (k : Nat) (q : Nat × va_E), (q_W g M')[k]? = some q → (q_W g M)[k]? = some (q.1, q_ce g M k) := by
    intro k q hq
    have hk : k < 49 := by
      rcases Nat.lt_or_ge k 49 with h1 | h1
      · exact h1
      · rw [q_W_out g M' h1] at hq; cases hq
    rw [q_W_at g M' hk] at hq
    cases hq
    exact q_W_at g M hk
  exact ⟨fun i j p q hi hj e => h.1 i j (p.1, q_ce g M i) (q.1, q_ce g M j) (key i p hi) (key j q hj) e, fun k q hq => h.2 k (q.1, q_ce g M k) (key k q hq)⟩
theorem q_W_set {g : q_G} {M M' : q_M} {r : Nat} {e : va_E} (hr : r < 49) (he : e = q_ce g M' r) (ho : ∀ j, j ≠ r → q_ce g M' j = q_ce g M j) : (q_W g M).set r (g.1 r, e) = q_W g M' := by
  apply List.ext_getElem?
  intro i
  rcases Nat.lt_or_ge i 49 with h | h
  · rw [q_W_at g M' h]
    by_cases hi : i = r
    · subst hi
      rw [List.getElem?_set_self (by rw [q_W_len]; exact h), he]
    · rw [List.getElem?_set_ne (Ne.symm hi), q_W_at g M h, ho i hi]
  · rw [q_W_out g M' h, List.getElem?_eq_none (by rw [List.length_set, q_W_len]; exact h)]
theorem q_fv_off {ad : Nat → Nat} {M M' : q_M} {r : Nat} (h1 : M'.1 r = M.1 r) (h2 : M'.2 r = M.2 r) : ∀ c k, q_fv ad M' r c k = q_fv ad M r c k := by
  intro c k
  unfold q_fv
  rw [h1, h2]
theorem q_ce_off {g : q_G} {M M' : q_M} {r : Nat} (h1 : M'.1 r = M.1 r) (h2 : M'.2 r = M.2 r) : q_ce g M' r = q_ce g M r := by
  unfold q_ce q_fs
  rw [h1, show q_fv g.1 M' r = q_fv g.1 M r from funext fun c => funext fun k => q_fv_off h1 h2 c k]
theorem q_up_ne (M : q_M) {r j : Nat} (k : Nat) (x : Int32) (h : j ≠ r) : (q_up M r k x).1 j = M.1 j := if_neg h
theorem q_up_eq (M : q_M) (r k : Nat) (x : Int32) : (q_up M r k x).1 r = upd (M.1 r) k x := if_pos rfl
theorem q_upL_ne (M : q_M) {r j : Nat} (k : Nat) (x : Int64) (h : j ≠ r) : (q_upL M r k x).2 j = M.2 j := if_neg h
theorem q_upL_eq (M : q_M) (r k : Nat) (x : Int64) : (q_upL M r k x).2 r = vp_updL (M.2 r) k x := if_pos rfl
theorem q_kd9 {r : Nat} (h : (q_kd r).1 ≠ 9) : r < 50 := by
  rcases Nat.lt_or_ge r 50 with h1 | h1
  · exact h1
  · exfalso
    apply h
    unfold q_kd
    rw [show Nat.ble 50 r = true from Nat.ble_eq.mpr h1, cond_true]
theorem q_kd49 {r : Nat} (h : (q_kd r).1 ≠ 9) (h2 : (q_kd r).1 ≠ 4) : r < 49 := by
  have h1 := q_kd9 h
  rcases Nat.lt_or_ge r 49 with h3 | h3
  · exact h3
  · have : r = 49 := by omega
    subst this
    exact absurd rfl h2
theorem q_kd4 {r : Nat} (h : (q_kd r).1 = 4) : r = 49 := by
  have h1 := q_kd9 (r := r) (by rw [h]; decide)
  have key : ∀ r, r < 50 → (q_kd r).1 = 4 → r = 49 := by decide +kernel
  exact key r h1 h
theorem q_fs_at {ad : Nat → Nat} {M : q_M} {r c k : Nat} (h : k < q_nf c) : (q_fs ad M r c)[k]? = some (q_fv ad M r c k) := by
  simp [q_fs, h]
theorem q_fs_len {ad : Nat → Nat} {M : q_M} {r c : Nat} : (q_fs ad M r c).length = q_nf c := by simp [q_fs]
theorem q_fs_set {ad : Nat → Nat} {M M' : q_M} {r c k : Nat} {v : Value} (hk : k < q_nf c) (hv : v = q_fv ad M' r c k) (ho : ∀ j, j ≠ k → q_fv ad M' r c j = q_fv ad M r c j) : (q_fs ad M r c).set k v = q_fs ad M' r c := by
  apply List.ext_getElem?
  intro i
  rcases Nat.lt_or_ge i (q_nf c) with h | h
  · rw [q_fs_at h]
    by_cases hi : i = k
    · subst hi
      rw [List.getElem?_set_self (by rw [q_fs_len]; exact h), hv]
    · rw [List.getElem?_set_ne (Ne.symm hi), q_fs_at h, ho i hi]
  · have e1 : ((q_fs ad M r c).set k v)[i]? = none := List.getElem?_eq_none (by rw [List.length_set, q_fs_len]; exact h)
    have e2 : (q_fs ad M' r c)[i]? = none := List.getElem?_eq_none (by rw [q_fs_len]; exact h)
    rw [e1, e2]
theorem q_upd_ne (f : Nat → Int32) {k j : Nat} (x : Int32) (h : j ≠ k) : upd f k x j = f j := if_neg h
theorem q_fv_up {ad : Nat → Nat} {M : q_M} {r c k : Nat} {x : Int32} : ∀ j, j ≠ k → q_fv ad (q_up M r k x) r c j = q_fv ad M r c j := by
  intro j hj
  unfold q_fv
  rw [q_up_eq, q_upd_ne _ _ hj]
  rfl
theorem q_fv_upL {ad : Nat → Nat} {M : q_M} {r c k : Nat} {x : Int64} : ∀ j, j ≠ k → q_fv ad (q_upL M r k x) r c j = q_fv ad M r c j := by
  intro j hj
  unfold q_fv
  rw [q_upL_eq, show vp_updL (M.2 r) k x j = M.2 r j from if_neg hj]
  rfl
