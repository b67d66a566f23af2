/-! A method's run in the machine is its contract. -/
def q_NW (U : State) : Prop := ∀ z ∈ q_nw, va_Nw (.methodLinkNest z.1 z.2.1 z.2.2.1 z.2.2.2) U
theorem q_NW.same {u U : State} (h : u.vm = U.vm) (hz : q_NW u) : q_NW U := fun z hm => va_Nw.same rfl h (hz z hm)
theorem q_NW.warm {s U : State} (hW : s.WarmedH U.vm) (hz : q_NW s) : q_NW U := fun z hm => va_Nw.warmM hW (hz z hm)
def q_ws (i : Nat) : List Cond := .code (q_nm i) (q_by i) (q_mx i) (q_rt i) :: wsL_law
def q_rm (d : Nat) : Room := { frames := d, cells := 0, slots := 0, locals := 64 * d }
def q_Ad (g : q_G) (sz : Nat) : Nat → Prop := fun q => (∃ i, i < 49 ∧ q = g.1 i) ∨ sz ≤ q
def q_PcB (g : q_G) (D : va_G) (M : q_M) (sz : Nat) (U : State) : Prop := U.heap.size = sz ∧ va_P D vwCl (q_W g M) U.heap ∧ va_K D vwCl (q_Y g) U ∧ va_D (fun _ => True) (q_W g M) ∧ q_NW U
def q_Qc (g : q_G) (D : va_G) (sz : Nat) (r : Option Value) (M' : q_M) : Array Value → State → Outcome → State → Prop := fun _ st o t => o = .returned (r.map (q_v g.1)) ∧ va_P D vwCl (q_W g M') t.heap ∧ va_F (q_Ad g sz) st t
def q_Met (l : Launch) (X : q_X) (d : Nat) : Prop := ∀ (G mi : Nat) (as : List Value) (M : q_M) (r : Option Value) (M' : q_M), mi < 112 → q_ex X d G mi as M = some (r, M') → ∀ (g : q_G) (D : va_G) (sz : Nat), Met l (q_nm mi) (q_ws mi) (q_rm d) (va_Pc (as.map (q_v g.1)) (q_PcB g D M sz)) (q_Qc g D sz r M') 0 0 (q_Ad g sz)
theorem q_Pc_blind {as : List Value} {g : q_G} {D : va_G} {M : q_M} {sz : Nat} : FrameBlind (va_Pc as (q_PcB g D M sz)) := fun a U gg mk q => by
  obtain ⟨q0, q1, qP, qK, qD, qN⟩ := q
  exact ⟨q0, q1, qP, va_K.moved (u := U) (U := U.calling gg mk a) (Vm.Alike.refl U.vm) qK, qD, q_NW.same rfl qN⟩
theorem q_D_self {g : q_G} {M M' : q_M} {B : Nat → Prop} {sz : Nat} (h : va_D B (q_W g M)) : va_D (q_Ad g sz) (q_W g M') := by
  have h1 := q_W_D (M' := M') h
  refine ⟨h1.1, fun k q hq => ?_⟩
  rcases Nat.lt_or_ge k 49 with h2 | h2
  · rw [q_W_at g M' h2] at hq
    cases hq
    exact Or.inl ⟨k, h2, rfl⟩
  · rw [q_W_out g M' h2] at hq
    cases hq
theorem q_goodC {big : List Cond} {x : Cond} {xs : List Cond} (h1 : x ∈ big) (h2 : goodWord x = true) (h3 : GoodIn big xs) : GoodIn big (x :: xs) := fun w hw => by
  rcases List.mem_cons.mp hw with rfl | h
  · exact ⟨h1, good_of_word h2⟩
  · exact h3 w h
theorem q_goodL : wsL_law.all goodWord = true := by decide +kernel
theorem q_goodB : GoodIn wsL_law wsL_law := fun w hw => ⟨hw, good_of_word (List.all_eq_true.mp q_goodL w hw)⟩
theorem q_mcf {i : Nat} (h : i < 112) : Cond.code (q_nm i) (q_by i) (q_mx i) (q_rt i) ∈ wsL_law ∧ Cond.initialized (q_nm i).cls ∈ wsL_law ∧ (q_st i = true → Cond.static (q_nm i) ∈ wsL_law) ∧ (q_st i = false → Cond.instanceMethod (q_nm i) ∈ wsL_law ∧ Cond.selects (q_R (q_oc i)) (q_nm i) (q_nm i) ∈ wsL_law) ∧ (q_nm i).cls = q_R (q_oc i) ∧ plainName (q_nm i).cls = true ∧ ((q_nm i).cls ≠ "java/lang/invoke/MethodHandle" ∧ (q_nm i).cls ≠ "java/lang/invoke/VarHandle") ∧ (parseMethodDescriptor (q_nm i).desc).map (fun d => d.parameters.length) = some (q_np i) ∧ q_mx i ≤ 45 := by
  have h1 := q_mcok h
  simp only [q_mc, Bool.and_eq_true, decide_eq_true_eq, Nat.ble_eq] at h1
  obtain ⟨⟨⟨⟨⟨⟨⟨⟨a2, a3⟩, a4⟩, a5⟩, a6⟩, a7⟩, a8⟩, a9⟩, a10⟩ := h1
  refine ⟨q_kw i h, q_mem a2, fun z => ?_, fun z => ?_, a4, a5, ⟨a6, a7⟩, a8, a9⟩
  · rw [z, cond_true] at a3; exact q_mem a3
  · rw [z, cond_false, Bool.and_eq_true] at a3; exact ⟨q_mem a3.1, q_mem a3.2⟩
theorem q_rtf {i : Nat} (h : i < 112) : (q_rk i = 0 → q_rt i = some .int) ∧ (q_rk i = 1 → q_rt i = some .boolean) ∧ (q_rk i = 2 → q_rt i = some .long) ∧ (q_rk i = 3 → q_rt i = none) ∧ (q_rk i = 4 → q_rt i = some (.array .int)) := by
  have h1 := q_mcok h
  simp only [q_mc, Bool.and_eq_true] at h1
  have h2 := h1.2
  refine ⟨fun z => ?_, fun z => ?_, fun z => ?_, fun z => ?_, fun z => ?_⟩ <;> (rw [z] at h2; exact of_decide_eq_true h2)
theorem q_ex_no {X : q_X} {d G mi : Nat} {as : List Value} {M : q_M} (h : 113 ≤ mi) : q_ex X d G mi as M = none := by
  cases d with
  | zero => rfl
  | succ d =>
    rw [q_ex]
    cases Nat.ble (q_as as).length (q_mx mi) with
    | false => rfl
    | true =>
      rw [cond_true]
      cases G with
      | zero => rfl
      | succ G =>
        have e : q_act X mi (0, q_en mi as, [], M) = none := by
          have e2 : q_cd mi 0 = none := by
            unfold q_cd
            rw [show Nat.ble 113 mi = true from Nat.ble_eq.mpr h, cond_true]
          simp only [q_act, e2]
        rw [q_run, e]
section QME
variable {p : Program} {l : Launch} {e : Env} {R : Room} {s : State} {m : MethodId} {args : Array Value} {below : List Frame} {meth : Method} {cd : Code} {cells slots : Nat} {Q : State → Prop}
variable {D : va_G} {g : q_G} {A : Nat → Prop} {H0 : Heap} {X : q_X} {mi : Nat}
theorem q_cont {H : Heap} {locs : List Loc} {pc : Nat} {cls : Array Slot} {st0 rest : List Value} {r1 : Option Value} {M1 : q_M} {aa : Array Value} (hr : va_Run p l e R s m args below meth cd H locs cells slots 0 0 (F0 m pc cls st0) rest (q_Qc g D H.size r1 M1 aa) (q_Ad g H.size)) (hS : va_S A H0 H locs) (hA : ∀ q, q_Ad g H.size q → A q)
    (kk : ∀ (H1 : Heap) (locs1 : List Loc), va_P D vwCl (q_W g M1) H1 → va_S A H0 H1 locs1 → W p l e R s m args below meth cd H1 locs1 cells slots Q (F0 m (pc + 3) cls ((r1.map (q_v g.1)).toList ++ rest))) : W p l e R s m args below meth cd H locs cells slots Q (F0 m pc cls st0) := by
  intro T hT Xs
  obtain ⟨v, st₀, t, T', L, h0, X', hL, e1, e2, ⟨hv, hp, hz, hk⟩, st⟩ := hr T hT Xs
  cases hv
  rw [h0] at hz hk
  obtain ⟨t2, a1, b1⟩ := kk T'.heap (locs ++ L) (by rw [e1]; exact hp) ⟨Nat.le_trans hS.1 (by rw [e1]; exact hz), fun q h1 h2 => by rw [e1, hk q (Nat.lt_of_lt_of_le h1 hS.1) (fun z => h2 (hA q z))]; exact hS.2.1 q h1 h2, fun q hq => by
      rcases List.mem_append.mp hq with h | h
      · exact hS.2.2 q h
      · exact hA _ (hL q h)⟩ T' rfl X'
  exact ⟨t2, st t2 a1, b1⟩
theorem q_stk {st : List Value} {n : Nat} (ad : Nat → Nat) : st.map (q_v ad) = ((st.take n).reverse.map (q_v ad)).reverse ++ (st.drop n).map (q_v ad) := by
  rw [← List.map_reverse, List.reverse_reverse, ← List.map_append, List.take_append_drop]
theorem q_runs (hC : q_Cx p s m args cd D g A H0 X mi) (hNW : q_NW s) {dd : Nat} (hRf : dd + 1 ≤ R.frames) (hRl : 64 * dd + 64 ≤ R.locals) (hRc : cells ≤ R.cells) (hRs : slots ≤ R.slots) (hM : q_Met l X dd) (hAn : ∀ q, H0.size ≤ q → A q) (hAg : ∀ i, i < 49 → A (g.1 i)) {G : Nat} {r : Option Value} {M' : q_M}
    (hret : ∀ pc st H locs cls, va_P D vwCl (q_W g M') H → va_S A H0 H locs → q_RI mi pc st r → W p l e R s m args below meth cd H locs cells slots Q (F0 m pc cls (st.map (q_v g.1)))) :
    ∀ (f : Nat) (c : q_F), q_run X (q_ex X dd G) mi f c = some (r, M') → ∀ (H : Heap) (locs : List Loc) (cls : Array Slot), q_At s D g A H0 mi c.2.1 c.2.2.2 H locs cls → W p l e R s m args below meth cd H locs cells slots Q (F0 m c.1 cls (c.2.2.1.map (q_v g.1))) := by
  intro f
  induction f with
  | zero => intro c h; cases h
  | succ f ih =>
    intro c h H locs cls hA
    obtain ⟨pc, ls, st, M⟩ := c
    have hC0 := hC
    obtain ⟨hx, hb, hml, hown, hts, hK, hD, hX⟩ := hC0
    rw [q_run] at h
    cases ha : q_act X mi (pc, ls, st, M) with
    | none => rw [ha] at h; cases h
    | some a =>
      rw [ha] at h
      refine q_step hC (by omega) (by omega) hRc hRs ha hA (fun c' e1 H1 locs1 cls1 hA1 => ?_) (fun mj as c' e1 hci => ?_) (fun r1 e1 hri => ?_)
      · subst e1
        exact ih c' h H1 locs1 cls1 hA1
      · subst e1
        dsimp only at h
        obtain ⟨hP, hS, hl⟩ := hA
        have hAall : ∀ q, q_Ad g H.size q → A q := fun q hq => by
          rcases hq with ⟨i, h1, h2⟩ | hq
          · rw [h2]; exact hAg i h1
          · exact hAn q (Nat.le_trans hS.1 hq)
        have hcm : c' = (pc + 3, ls, c'.2.2.1, M) := by
          rcases hci with ⟨k, nb, r0, rest, -, -, -, -, -, -, -, -, e⟩ | ⟨k, nb, -, -, -, -, -, -, -, -, e⟩ <;> rw [e]
        cases hj : q_ex X dd G mj as c'.2.2.2 with
        | none => rw [hj] at h; cases h
        | some rm =>
          obtain ⟨r1, M1⟩ := rm
          rw [hj] at h
          dsimp only at h
          have hMM : c'.2.2.2 = M := by rw [hcm]
          rw [hMM] at hj
          have hsize : (F0 m pc cls (st.map (q_v g.1))).locals.size = q_mx mi := hl.choose_spec.1.1
          have hcont : ∀ (H1 : Heap) (locs1 : List Loc), va_P D vwCl (q_W g M1) H1 → va_S A H0 H1 locs1 → W p l e R s m args below meth cd H1 locs1 cells slots Q (F0 m (pc + 3) cls ((r1.map (q_v g.1)).toList ++ c'.2.2.1.map (q_v g.1))) := by
            intro H1 locs1 hP1 hS1
            have := ih _ h H1 locs1 cls ⟨hP1, hS1, by rw [hcm]; exact hl⟩
            have e2 : (r1.toList ++ c'.2.2.1).map (q_v g.1) = (r1.map (q_v g.1)).toList ++ c'.2.2.1.map (q_v g.1) := by
              cases r1 <;> simp
            have e3 : c'.1 = pc + 3 := by rw [hcm]
            dsimp only at this
            rw [e2, e3] at this
            exact this
          have hpre : ∀ U : State, U.heap = H → s.WarmedH U.vm → va_Pc (as.map (q_v g.1)) (q_PcB g D M H.size) (as.map (q_v g.1)).toArray U := fun U hU hW =>
            ⟨rfl, by rw [hU], by rw [hU]; exact hP, va_K.moved hW.alike hK, (hD M).weaken (fun _ _ _ _ => trivial), q_NW.warm hW hNW⟩
          rcases hci with ⟨k, nb, r0, rest, hdg, hm, hst, hdr, k1, k2, h4, has, hc'⟩ | ⟨k, nb, hdg, hm, n200, n201, hst, hle, h4, has, hc'⟩
          · have hlc := q_mlg hm
            have hmj : mj < 112 ∧ Cond.methodLink (q_R (q_oc mi)) k (q_nm mj) ∈ wsL_law := by
              simp only [q_lc, hm] at hlc
              have n200 : Nat.beq mj 200 = false := by
                cases hz : Nat.beq mj 200 with
                | false => rfl
                | true =>
                  have hz2 := Nat.beq_eq.mp hz
                  rw [hz2, q_ex_no (by decide)] at hj
                  cases hj
              have n201 : Nat.beq mj 201 = false := by
                cases hz : Nat.beq mj 201 with
                | false => rfl
                | true =>
                  have hz2 := Nat.beq_eq.mp hz
                  rw [hz2, q_ex_no (by decide)] at hj
                  cases hj
              simp only [n200, n201, cond_false, Bool.and_eq_true] at hlc
              refine ⟨by simpa [Nat.blt_eq] using hlc.1, ?_⟩
              cases nb with
              | true => simp only [cond_true, hst, Bool.false_and] at hlc; exact absurd hlc.2 (by decide)
              | false => exact q_mem hlc.2
            obtain ⟨w1, w2, -, w3, w4, w5, w6, w7, w8⟩ := q_mcf hmj.1
            have hMet := hM G mj as M r1 M1 hmj.1 hj g D H.size
            have hlen : ((st.take (q_np mj)).reverse.map (q_v g.1)).length = q_np mj := by
              rw [List.length_map, List.length_reverse, List.length_take]
              have : q_np mj < st.length := by
                rcases Nat.lt_or_ge (q_np mj) st.length with z | z
                · exact z
                · rw [List.drop_eq_nil_of_le z] at hdr; cases hdr
              omega
            subst has
            refine q_cont (va_runV (As := (st.take (q_np mj)).reverse.map (q_v g.1)) (rest := rest.map (q_v g.1)) (C := q_R (q_oc mj)) (b := g.1 r0) (n := q_np mj) (nL := q_mx mi) ⟨hx, hb, hml, hown, hts⟩ hMet
              (cwV (bytes := q_by mj) (maxL := q_mx mj) (ret := q_rt mj) (q_np mj) hts (q_goodC hmj.2 rfl (q_goodC (w3 hst).1 rfl (q_goodC (w3 hst).2 rfl (q_goodC (by rw [← w4]; exact w2) rfl (q_goodC w1 rfl q_goodB))))) rfl rfl rfl ⟨w4, w6.1, w6.2, w7⟩ ⟨hRf, by show 8 + (q_mx mj + 11) + 64 * dd ≤ R.locals; omega⟩)
              ⟨q_Pc_blind, ?_, hpre⟩ rfl hlen hsize ?_ (lv_room (q_rst g.1 h4)) hdg ⟨hRc, hRs⟩) hS hAall ?_
            · have hc6 : q_oc mj < 6 := by
                have key : ∀ r, r < 50 → (q_kd r).1 = 0 → (q_kd r).2.1 < 6 := by decide +kernel
                rw [← k2]
                exact key r0 (q_kd9 (by rw [k1]; decide)) k1
              have e6 : q_C (q_oc mj) = q_R (q_oc mj) := q_c6 (P := fun c => q_C c = q_R c) rfl rfl rfl rfl rfl rfl hc6
              have := va_recv hK hP (ci := q_oc mj) (q0 := r0) (q_vw hc6) (q_oa k1 k2)
              dsimp only at this
              rw [e6] at this
              exact this
            · show st.map (q_v g.1) = _
              rw [q_stk (n := q_np mj) g.1, hdr]
              rfl
            · intro H1 locs1 h1 h2
              have := hcont H1 locs1 h1 h2
              rw [hc'] at this
              exact this
          · have hlc := q_mlg hm
            have m200 : Nat.beq mj 200 = false := by
              cases hz : Nat.beq mj 200 with
              | false => rfl
              | true => exact absurd (Nat.beq_eq.mp hz) n200
            have m201 : Nat.beq mj 201 = false := by
              cases hz : Nat.beq mj 201 with
              | false => rfl
              | true => exact absurd (Nat.beq_eq.mp hz) n201
            simp only [q_lc, hm, m200, m201, cond_false, Bool.and_eq_true] at hlc
            have hmj : mj < 112 := by simpa [Nat.blt_eq] using hlc.1
            obtain ⟨w1, w2, w3, -, w4, w5, w6, w7, w8⟩ := q_mcf hmj
            have hMet := hM G mj as M r1 M1 hmj hj g D H.size
            have hlen : ((st.take (q_np mj)).reverse.map (q_v g.1)).length = q_np mj := by
              rw [List.length_map, List.length_reverse, List.length_take]
              omega
            have hrest : Nat.ble (st.drop (q_np mj)).length 4 = true := by rw [List.length_drop]; exact h4
            have hstack : st.map (q_v g.1) = ((st.take (q_np mj)).reverse.map (q_v g.1)).reverse ++ (st.drop (q_np mj)).map (q_v g.1) := q_stk g.1
            have hkk : ∀ (H1 : Heap) (locs1 : List Loc), va_P D vwCl (q_W g M1) H1 → va_S A H0 H1 locs1 → W p l e R s m args below meth cd H1 locs1 cells slots Q (F0 m (pc + 3) cls ((r1.map (q_v g.1)).toList ++ (st.drop (q_np mj)).map (q_v g.1))) := by
              intro H1 locs1 h1 h2
              have := hcont H1 locs1 h1 h2
              rw [hc'] at this
              exact this
            subst has
            have hRR : dd + 1 ≤ R.frames ∧ 8 + (q_mx mj + 11) + 64 * dd ≤ R.locals := ⟨hRf, by omega⟩
            cases nb with
            | false =>
              have hlk : Cond.methodLink (q_R (q_oc mi)) k (q_nm mj) ∈ wsL_law := q_mem hlc.2
              exact q_cont (va_runS (As := (st.take (q_np mj)).reverse.map (q_v g.1)) (rest := (st.drop (q_np mj)).map (q_v g.1)) (n := q_np mj) (nL := q_mx mi) ⟨hx, hb, hml, hown, hts⟩ hMet
                (va_cwS (bytes := q_by mj) (maxL := q_mx mj) (ret := q_rt mj) (q_np mj) hts (q_goodC hlk rfl (q_goodC (w3 hst) rfl (q_goodC w2 rfl (q_goodC w1 rfl q_goodB)))) rfl rfl rfl ⟨w6.1, w6.2, w7⟩ hRR)
                ⟨q_Pc_blind, hpre⟩ rfl hlen hsize hstack (lv_room (q_rst g.1 hrest)) hdg ⟨hRc, hRs⟩) hS hAall hkk
            | true =>
              simp only [cond_true, Bool.and_eq_true, decide_eq_true_eq] at hlc
              have hnn := hNW _ hlc.2.2
              exact q_cont (va_runSN (As := (st.take (q_np mj)).reverse.map (q_v g.1)) (rest := (st.drop (q_np mj)).map (q_v g.1)) (n := q_np mj) (nL := q_mx mi) ⟨hx, hb, hml, hown, hts⟩ hMet
                ⟨va_cnB (bytes := q_by mj) (maxL := q_mx mj) (ret := q_rt mj) (q_np mj) hts (q_goodC w1 rfl q_goodB) rfl rfl rfl hnn (hts _ w2) ⟨w6.1, w6.2, w7⟩ hRR, hts _ (w3 hst), trivial⟩
                ⟨q_Pc_blind, hpre⟩ rfl hlen hsize hstack (lv_room (q_rst g.1 hrest)) hdg ⟨hRc, hRs⟩) hS hAall hkk
      · subst e1
        dsimp only at h
        cases h
        obtain ⟨hP, hS, hl⟩ := hA
        exact hret pc st H locs cls hP hS hri
end QME
theorem q_as_ld : ∀ (ad : Nat → Nat) (as : List Value) (o i : Nat) (v : Value) (n : Nat), q_ld (q_as as ++ List.replicate n none) i = some v → (o + i, q_v ad v) ∈ lv_args o (as.map (q_v ad)) := by
  intro ad as
  induction as with
  | nil =>
    intro o i v n h
    exfalso
    simp only [q_as, List.nil_append, q_ld] at h
    by_cases hi : i < n <;> simp [hi] at h
  | cons w as ih =>
    intro o i v n h
    show (o + i, q_v ad v) ∈ (o, q_v ad w) :: lv_args (if (q_v ad w).category = 2 then o + 2 else o + 1) (as.map (q_v ad))
    rw [q_vcat]
    match i with
    | 0 =>
      have : some w = some v := h
      cases this
      exact List.mem_cons_self
    | i + 1 =>
      refine List.mem_cons_of_mem _ ?_
      by_cases hc : w.category = 2
      · rw [if_pos hc]
        have h1 : q_as (w :: as) = some w :: none :: q_as as := by
          show some w :: (bif Nat.beq w.category 2 then none :: q_as as else q_as as) = _
          rw [Nat.beq_eq.mpr hc, cond_true]
        rw [h1] at h
        match i with
        | 0 => cases h
        | i + 1 =>
          have := ih (o + 2) i v n h
          rwa [show o + 2 + i = o + (i + 1 + 1) by omega] at this
      · rw [if_neg hc]
        have h1 : q_as (w :: as) = some w :: q_as as := by
          show some w :: (bif Nat.beq w.category 2 then none :: q_as as else q_as as) = _
          have : Nat.beq w.category 2 = false := by
            cases hz : Nat.beq w.category 2 with
            | false => rfl
            | true => exact absurd (Nat.beq_eq.mp hz) hc
          rw [this, cond_false]
        rw [h1] at h
        have := ih (o + 1) i v n h
        rwa [show o + 1 + i = o + (i + 1) by omega] at this
theorem q_as_len (ad : Nat → Nat) : ∀ as : List Value, (lg_sl (as.map (q_v ad))).length = (q_as as).length := by
  intro as
  induction as with
  | nil => rfl
  | cons w as ih =>
    have e1 : q_as (w :: as) = some w :: (bif Nat.beq w.category 2 then none :: q_as as else q_as as) := rfl
    rw [e1]
    simp only [lg_sl, List.map_cons, List.flatMap_cons, List.length_append] at ih ⊢
    rw [ih]
    cases w <;> simp [q_v, Value.category, show Nat.beq 1 2 = false from rfl, show Nat.beq 2 2 = true from rfl] <;> omega
set_option maxHeartbeats 1000000 in
theorem q_met_all (l : Launch) (X : q_X) : ∀ d, q_Met l X d := by
  intro d
  induction d with
  | zero => intro G mi as M r M' hmi h; cases h
  | succ d ih =>
    intro G mi as M r M' hmi h g D sz
    rw [q_ex] at h
    cases hle : Nat.ble (q_as as).length (q_mx mi) with
    | false => rw [hle] at h; cases h
    | true =>
      rw [hle, cond_true] at h
      obtain ⟨w1, w2, w3, w4, w5, w6, w7, w8, w9⟩ := q_mcf hmi
      refine Met.ofW (cc := q_by mi) (maxL := q_mx mi) (ret := q_rt mi) w6 rfl ?_
      intro p e s m args below meth c s₁ B hml hv
      obtain ⟨rfl, hsz, hP, hK, hD0, hNW⟩ := hv
      have hx := B.exec
      have hb := B.bytes
      have hr := B.returns
      have hts0 := atoms_spec (ws := q_ws mi) B.pre
      have hts : ∀ w ∈ wsL_law, w.before (as.map (q_v g.1)).toArray s = true := fun w hw => hts0 w (List.mem_cons_of_mem _ hw)
      have hown0 : s.vm.findClass (q_nm mi).cls = some m.cls := findClass_of_methodNamed B.named
      rw [w5] at hown0
      have hlocks := B.notSynchronized
      subst hsz
      have hle2 : (lg_sl (as.map (q_v g.1))).length ≤ q_mx mi := by rw [q_as_len]; exact Nat.ble_eq.mp hle
      have hl := lv_entry (as.map (q_v g.1)) (n := q_mx mi) hle2
      rw [lg_entry_eq]
      generalize (lg_sl (as.map (q_v g.1)) ++ List.replicate (q_mx mi - (lg_sl (as.map (q_v g.1))).length) Slot.unset).toArray = ls at hl ⊢
      have hLS : q_LS g.1 (q_mx mi) (q_en mi as) ls := ⟨_, hl, fun i v hv => by
        have := q_as_ld g.1 as 0 i v _ hv
        rwa [Nat.zero_add] at this⟩
      have hrt := q_rtf hmi
      refine q_runs (A := q_Ad g s.heap.size) (H0 := s.heap) (X := X) (mi := mi) ⟨hx, hb, hml, hown0, hts, hK, fun M2 => q_D_self hD0, fun z => absurd z (by omega)⟩ hNW (dd := d) (Nat.le_refl _) (by show 64 * d + 64 ≤ 64 * (d + 1); omega) (Nat.le_refl _) (Nat.le_refl _) ih (fun q hq => Or.inr hq) (fun i hi => Or.inl ⟨i, hi, rfl⟩) (G := G) (r := r) (M' := M') ?_ G (0, q_en mi as, [], M) h s.heap [] ls ⟨hP, va_S.rf, hLS⟩
      intro pc st H locs cls hP1 hS1 hri
      rcases hri with ⟨x, hdg, e1, e2, hk⟩ | ⟨x, hdg, e1, e2, hk⟩ | ⟨x, hdg, e1, e2, hk⟩ | ⟨hdg, e1, e2, hk⟩
      · subst e1; subst e2
        rcases hk with hk | ⟨hk, h01⟩
        · rw [hrt.1 hk] at hr
          exact W.iret (v := x) hx hb hr (fun t ht hW => ⟨rfl, by rw [ht]; exact hP1, hS1.F ht⟩) hS1.2.2 hdg
        · rw [hrt.2.1 hk] at hr
          exact W.zret (v := x) hx hb hr (by rcases h01 with z | z <;> subst z <;> rfl) (fun t ht hW => ⟨rfl, by rw [ht]; exact hP1, hS1.F ht⟩) hS1.2.2 hdg
      · subst e1; subst e2
        rw [hrt.2.2.1 hk] at hr
        exact W.lret (v := x) hx hb hr (fun t ht hW => ⟨rfl, by rw [ht]; exact hP1, hS1.F ht⟩) hS1.2.2 hdg
      · subst e1; subst e2
        rw [hrt.2.2.2.2 hk] at hr
        exact W.aret (v := .ref (g.1 x)) hx hb hr (Or.inr ⟨_, rfl⟩) (Or.inr ⟨_, rfl⟩) (fun t ht hW => ⟨rfl, by rw [ht]; exact hP1, hS1.F ht⟩) hS1.2.2 hdg
      · subst e1; subst e2
        rw [hrt.2.2.2.1 hk] at hr
        exact W.vret hx hb hr (fun t ht hW => ⟨rfl, by rw [ht]; exact hP1, hS1.F ht⟩) hS1.2.2 hdg
