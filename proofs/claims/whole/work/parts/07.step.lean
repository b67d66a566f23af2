/-! One instruction of the machine, over the kit's rows. -/
section QST
variable {p : Program} {l : Launch} {e : Env} {R : Room} {s : State} {m : MethodId} {args : Array Value} {below : List Frame} {meth : Method} {cd : Code} {H : Heap} {locs : List Loc} {cells slots : Nat} {Q : State → Prop}
variable {D : va_G} {g : q_G} {A : Nat → Prop} {H0 : Heap} {X : q_X} {mi : Nat}
theorem q_ia {M : q_M} {r : Nat} (h : (q_kd r).1 = 1) : (q_W g M)[r]? = some (g.1 r, .inl (g.2.1, (q_kd r).2.1, .inl (M.1 r))) := by
  rw [q_W_at g M (q_kd49 (by rw [h]; decide) (by rw [h]; decide))]
  simp only [q_ce, h]
theorem q_za {M : q_M} {r : Nat} (h : (q_kd r).1 = 2) : (q_W g M)[r]? = some (g.1 r, .inl (g.2.2.1, (q_kd r).2.1, .inl (M.1 r))) := by
  rw [q_W_at g M (q_kd49 (by rw [h]; decide) (by rw [h]; decide))]
  simp only [q_ce, h]
theorem q_ra {M : q_M} {r : Nat} (h : (q_kd r).1 = 3) : (q_W g M)[r]? = some (g.1 r, .inl (g.2.2.2, (q_kd r).2.1, .inr (.inr (.inr (.inr (fun j => some (g.1 ((q_kd r).2.2 + j)))))))) := by
  rw [q_W_at g M (q_kd49 (by rw [h]; decide) (by rw [h]; decide))]
  simp only [q_ce, h]
theorem q_oa {M : q_M} {r c : Nat} (h : (q_kd r).1 = 0) (hc : (q_kd r).2.1 = c) : (q_W g M)[r]? = some (g.1 r, .inr (c, q_fs g.1 M r c)) := by
  rw [q_W_at g M (q_kd49 (by rw [h]; decide) (by rw [h]; decide))]
  simp only [q_ce, h, hc]
theorem q_in_of {x : Int32} {n : Nat} (h : q_outD x n = false) : vp_in x n := by
  unfold q_outD at h
  simp only [Bool.or_eq_false_iff, decide_eq_false_iff_not] at h
  intro h2
  rcases h2 with h2 | h2
  · exact h.1 h2
  · rw [Nat.ble_eq.mpr h2] at h
    cases h.2
/-- a field is read -/
theorem q_step_gf (hx : p.tables.exec = Jvm.exec) (hb : cd.code = q_by mi) (hts : ∀ w ∈ wsL_law, w.before args s = true) (hown : s.vm.findClass (q_R (q_oc mi)) = some m.cls) (hK : va_K D vwCl (q_Y g) s)
    {pc k r c f : Nat} {ls : q_L} {st : List Value} {M : q_M} {a : q_A} {cls : Array Slot} (hP : va_P D vwCl (q_W g M) H) (hdg : decode (q_by mi) pc = .ok (.getfield k, 3)) (hf : q_fl (q_oc mi) k = some (c, f)) (ha : q_gf mi (pc + 3) ls st M r c f = some a) :
    ∃ v : Value, a = .inl (pc + 3, ls, v :: st, M) ∧ (W p l e R s m args below meth cd H locs cells slots Q (F0 m (pc + 3) cls ((v :: st).map (q_v g.1))) → W p l e R s m args below meth cd H locs cells slots Q (F0 m pc cls ((Value.ref r :: st).map (q_v g.1)))) := by
  obtain ⟨hw, hc6, hfn⟩ := q_flok hf
  unfold q_gf at ha
  cases hc : (Nat.beq (q_kd r).1 0 && Nat.beq (q_kd r).2.1 c) with
  | false => rw [hc] at ha; cases ha
  | true =>
    rw [hc, cond_true] at ha
    simp only [Bool.and_eq_true, Nat.beq_eq] at hc
    have hw0 := q_oa (g := g) (M := M) hc.1 hc.2
    have go : ∀ v : Value, q_v g.1 v = q_fv g.1 M r c f → (W p l e R s m args below meth cd H locs cells slots Q (F0 m (pc + 3) cls ((v :: st).map (q_v g.1))) → W p l e R s m args below meth cd H locs cells slots Q (F0 m pc cls ((Value.ref r :: st).map (q_v g.1)))) := by
      intro v hv kk
      refine va_get (D := D) (ci := c) (v := q_fv g.1 M r c f) (C := q_C c) (T := q_T c) (N := q_nf c) hx hb hts (q_inl hc6) hown hK hP r hw0 (q_vw hc6) f hfn (hts _ hw) (fun _ h9 => h9) (q_fs_at hfn) hdg ?_
      rw [← hv]
      exact kk
    have ht := q_tcok hc6 hfn
    unfold q_tc at ht
    split at ha
    · rename_i h0
      cases ha
      exact ⟨_, rfl, go _ (by simp only [q_fv, h0]; rfl)⟩
    · rename_i h0
      cases ha
      exact ⟨_, rfl, go _ (by simp only [q_fv, h0]; rfl)⟩
    · rename_i h0
      cases ha
      exact ⟨_, rfl, go _ (by simp only [q_fv, h0]; rfl)⟩
    · rename_i h0
      cases ha
      exact ⟨_, rfl, go _ (by simp only [q_fv, h0]; rfl)⟩
    · cases ha
/-- a field is written -/
theorem q_step_pf (hx : p.tables.exec = Jvm.exec) (hb : cd.code = q_by mi) (hts : ∀ w ∈ wsL_law, w.before args s = true) (hown : s.vm.findClass (q_R (q_oc mi)) = some m.cls) (hK : va_K D vwCl (q_Y g) s)
    {pc k r c f : Nat} {ls : q_L} {st : List Value} {M : q_M} {a : q_A} {cls : Array Slot} {w : Value} (hP : va_P D vwCl (q_W g M) H) (hD : va_D A (q_W g M)) (hS : va_S A H0 H locs) (hdg : decode (q_by mi) pc = .ok (.putfield k, 3)) (hf : q_fl (q_oc mi) k = some (c, f)) (ha : q_pf mi (pc + 3) ls st M r c f w = some a) :
    ∃ M' : q_M, a = .inl (pc + 3, ls, st, M') ∧ ((∀ H1 locs1, va_P D vwCl (q_W g M') H1 → va_S A H0 H1 locs1 → W p l e R s m args below meth cd H1 locs1 cells slots Q (F0 m (pc + 3) cls (st.map (q_v g.1)))) → W p l e R s m args below meth cd H locs cells slots Q (F0 m pc cls ((w :: Value.ref r :: st).map (q_v g.1)))) := by
  obtain ⟨hw, hc6, hfn⟩ := q_flok hf
  unfold q_pf at ha
  cases hc : (Nat.beq (q_kd r).1 0 && Nat.beq (q_kd r).2.1 c) with
  | false => rw [hc] at ha; cases ha
  | true =>
    rw [hc, cond_true] at ha
    simp only [Bool.and_eq_true, Nat.beq_eq] at hc
    have hw0 := q_oa (g := g) (M := M) hc.1 hc.2
    have hr : r < 49 := q_kd49 (by rw [hc.1]; decide) (by rw [hc.1]; decide)
    have ht := q_tcok hc6 hfn
    unfold q_tc at ht
    have go : ∀ (M' : q_M) (v : Value) (ty : FieldType), q_v g.1 w = v → q_ty c f = ty → (q_T c f).2.2.2 = false → narrow ty v = v → fits ty v = true → v = q_fv g.1 M' r c f → (∀ j, j ≠ f → q_fv g.1 M' r c j = q_fv g.1 M r c j) → (∀ j, j ≠ r → q_ce g M' j = q_ce g M j) →
        ((∀ H1 locs1, va_P D vwCl (q_W g M') H1 → va_S A H0 H1 locs1 → W p l e R s m args below meth cd H1 locs1 cells slots Q (F0 m (pc + 3) cls (st.map (q_v g.1)))) → W p l e R s m args below meth cd H locs cells slots Q (F0 m pc cls ((w :: Value.ref r :: st).map (q_v g.1)))) := by
      intro M' v ty e1 e2 hfin hn hfit hv ho hof kk
      show W p l e R s m args below meth cd H locs cells slots Q (F0 m pc cls (q_v g.1 w :: Value.ref (g.1 r) :: st.map (q_v g.1)))
      rw [e1]
      refine va_put (D := D) (ci := c) (v := v) (ty := ty) (C := q_C c) (T := q_T c) (N := q_nf c) hx hb hts (q_inl hc6) (q_ty c) (q_tyo hc6) (q_nmo hc6) hown hK hP hD hS r hw0 (q_vw hc6) f hfn (hts _ hw) (fun _ h9 => h9) hfin (by rw [← e2]; exact q_tyo hc6 f hfn) hn hfit (by rw [q_fs_len]; exact hfn) hdg (fun H1 locs1 hP1 hD1 hS1 => ?_)
      rw [q_fs_set hfn hv ho, q_W_set (M' := M') hr (by simp only [q_ce, hc.1, hc.2]) hof] at hP1
      exact kk H1 locs1 hP1 hS1
    split at ha
    · rename_i h0
      simp only [h0, Bool.and_eq_true, decide_eq_true_eq] at ht
      cases ha
      exact ⟨_, rfl, go _ _ _ rfl ht.1 ht.2 rfl rfl (by simp only [q_fv, h0, q_up_eq]; simp [upd, q_v]) q_fv_up (fun j hj => q_ce_off (q_up_ne M _ _ hj) rfl)⟩
    · rename_i h0
      simp only [h0, Bool.and_eq_true, decide_eq_true_eq] at ht
      split at ha
      · rename_i h01
        cases ha
        refine ⟨_, rfl, go _ _ _ rfl ht.1 ht.2 ?_ ?_ (by simp only [q_fv, h0, q_up_eq]; simp [upd, q_v]) q_fv_up (fun j hj => q_ce_off (q_up_ne M _ _ hj) rfl)⟩
        · rcases h01 with h | h <;> subst h <;> rfl
        · rcases h01 with h | h <;> subst h <;> rfl
      · cases ha
    · rename_i h0
      simp only [h0, Bool.and_eq_true, decide_eq_true_eq] at ht
      cases ha
      exact ⟨_, rfl, go _ _ _ rfl ht.1 ht.2 rfl rfl (by simp only [q_fv, h0, q_upL_eq]; simp [vp_updL, q_v]) q_fv_upL (fun j hj => q_ce_off rfl (q_upL_ne M _ _ hj))⟩
    · cases ha
end QST
