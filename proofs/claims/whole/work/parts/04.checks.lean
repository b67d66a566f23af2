/-! The tables are the program's: places of words; decode rows (by program: wip/whole/gen3.py) -/
def q_has (i : Nat) (x : Cond) : Bool := decide (wsL_law[i]? = some x)
theorem q_mem {i : Nat} {x : Cond} (h : q_has i x = true) : x ∈ wsL_law := List.mem_of_getElem? (of_decide_eq_true h)
def q_fp (c i : Nat) : Nat := bif Nat.ble 4168 (c * 1024 + i) then (bif Nat.ble 5148 (c * 1024 + i) then (bif Nat.ble 5174 (c * 1024 + i) then (bif Nat.ble 5196 (c * 1024 + i) then (bif Nat.ble 5242 (c * 1024 + i) then (bif Nat.ble 5246 (c * 1024 + i) then (bif Nat.ble 5271 (c * 1024 + i) then (bif Nat.beq (c * 1024 + i) 5271 then 474 else 0) else (bif Nat.beq (c * 1024 + i) 5246 then 412 else 0)) else (bif Nat.beq (c * 1024 + i) 5242 then 411 else 0)) else (bif Nat.ble 5217 (c * 1024 + i) then (bif Nat.beq (c * 1024 + i) 5217 then 313 else 0) else (bif Nat.beq (c * 1024 + i) 5196 then 116 else 0))) else (bif Nat.ble 5180 (c * 1024 + i) then (bif Nat.ble 5183 (c * 1024 + i) then (bif Nat.beq (c * 1024 + i) 5183 then 81 else 0) else (bif Nat.beq (c * 1024 + i) 5180 then 80 else 0)) else (bif Nat.ble 5177 (c * 1024 + i) then (bif Nat.beq (c * 1024 + i) 5177 then 79 else 0) else (bif Nat.beq (c * 1024 + i) 5174 then 78 else 0)))) else (bif Nat.ble 5161 (c * 1024 + i) then (bif Nat.ble 5167 (c * 1024 + i) then (bif Nat.ble 5170 (c * 1024 + i) then (bif Nat.beq (c * 1024 + i) 5170 then 77 else 0) else (bif Nat.beq (c * 1024 + i) 5167 then 76 else 0)) else (bif Nat.ble 5164 (c * 1024 + i) then (bif Nat.beq (c * 1024 + i) 5164 then 75 else 0) else (bif Nat.beq (c * 1024 + i) 5161 then 74 else 0))) else (bif Nat.ble 5155 (c * 1024 + i) then (bif Nat.ble 5158 (c * 1024 + i) then (bif Nat.beq (c * 1024 + i) 5158 then 73 else 0) else (bif Nat.beq (c * 1024 + i) 5155 then 72 else 0)) else (bif Nat.ble 5152 (c * 1024 + i) then (bif Nat.beq (c * 1024 + i) 5152 then 71 else 0) else (bif Nat.beq (c * 1024 + i) 5148 then 70 else 0))))) else (bif Nat.ble 4251 (c * 1024 + i) then (bif Nat.ble 5133 (c * 1024 + i) then (bif Nat.ble 5139 (c * 1024 + i) then (bif Nat.ble 5142 (c * 1024 + i) then (bif Nat.ble 5145 (c * 1024 + i) then (bif Nat.beq (c * 1024 + i) 5145 then 69 else 0) else (bif Nat.beq (c * 1024 + i) 5142 then 68 else 0)) else (bif Nat.beq (c * 1024 + i) 5139 then 67 else 0)) else (bif Nat.ble 5136 (c * 1024 + i) then (bif Nat.beq (c * 1024 + i) 5136 then 66 else 0) else (bif Nat.beq (c * 1024 + i) 5133 then 65 else 0))) else (bif Nat.ble 4258 (c * 1024 + i) then (bif Nat.ble 5127 (c * 1024 + i) then (bif Nat.beq (c * 1024 + i) 5127 then 64 else 0) else (bif Nat.beq (c * 1024 + i) 4258 then 299 else 0)) else (bif Nat.ble 4254 (c * 1024 + i) then (bif Nat.beq (c * 1024 + i) 4254 then 521 else 0) else (bif Nat.beq (c * 1024 + i) 4251 then 520 else 0)))) else (bif Nat.ble 4181 (c * 1024 + i) then (bif Nat.ble 4227 (c * 1024 + i) then (bif Nat.ble 4233 (c * 1024 + i) then (bif Nat.beq (c * 1024 + i) 4233 then 468 else 0) else (bif Nat.beq (c * 1024 + i) 4227 then 433 else 0)) else (bif Nat.ble 4187 (c * 1024 + i) then (bif Nat.beq (c * 1024 + i) 4187 then 174 else 0) else (bif Nat.beq (c * 1024 + i) 4181 then 165 else 0))) else (bif Nat.ble 4175 (c * 1024 + i) then (bif Nat.ble 4178 (c * 1024 + i) then (bif Nat.beq (c * 1024 + i) 4178 then 164 else 0) else (bif Nat.beq (c * 1024 + i) 4175 then 155 else 0)) else (bif Nat.ble 4171 (c * 1024 + i) then (bif Nat.beq (c * 1024 + i) 4171 then 154 else 0) else (bif Nat.beq (c * 1024 + i) 4168 then 144 else 0)))))) else (bif Nat.ble 2066 (c * 1024 + i) then (bif Nat.ble 3100 (c * 1024 + i) then (bif Nat.ble 4115 (c * 1024 + i) then (bif Nat.ble 4129 (c * 1024 + i) then (bif Nat.ble 4141 (c * 1024 + i) then (bif Nat.ble 4145 (c * 1024 + i) then (bif Nat.beq (c * 1024 + i) 4145 then 87 else 0) else (bif Nat.beq (c * 1024 + i) 4141 then 86 else 0)) else (bif Nat.beq (c * 1024 + i) 4129 then 27 else 0)) else (bif Nat.ble 4122 (c * 1024 + i) then (bif Nat.beq (c * 1024 + i) 4122 then 23 else 0) else (bif Nat.beq (c * 1024 + i) 4115 then 19 else 0))) else (bif Nat.ble 3107 (c * 1024 + i) then (bif Nat.ble 4108 (c * 1024 + i) then (bif Nat.beq (c * 1024 + i) 4108 then 15 else 0) else (bif Nat.beq (c * 1024 + i) 3107 then 290 else 0)) else (bif Nat.ble 3104 (c * 1024 + i) then (bif Nat.beq (c * 1024 + i) 3104 then 289 else 0) else (bif Nat.beq (c * 1024 + i) 3100 then 288 else 0)))) else (bif Nat.ble 3081 (c * 1024 + i) then (bif Nat.ble 3093 (c * 1024 + i) then (bif Nat.ble 3096 (c * 1024 + i) then (bif Nat.beq (c * 1024 + i) 3096 then 287 else 0) else (bif Nat.beq (c * 1024 + i) 3093 then 59 else 0)) else (bif Nat.ble 3087 (c * 1024 + i) then (bif Nat.beq (c * 1024 + i) 3087 then 57 else 0) else (bif Nat.beq (c * 1024 + i) 3081 then 56 else 0))) else (bif Nat.ble 2073 (c * 1024 + i) then (bif Nat.ble 2076 (c * 1024 + i) then (bif Nat.beq (c * 1024 + i) 2076 then 43 else 0) else (bif Nat.beq (c * 1024 + i) 2073 then 42 else 0)) else (bif Nat.ble 2069 (c * 1024 + i) then (bif Nat.beq (c * 1024 + i) 2069 then 41 else 0) else (bif Nat.beq (c * 1024 + i) 2066 then 40 else 0))))) else (bif Nat.ble 1103 (c * 1024 + i) then (bif Nat.ble 1130 (c * 1024 + i) then (bif Nat.ble 2057 (c * 1024 + i) then (bif Nat.ble 2063 (c * 1024 + i) then (bif Nat.beq (c * 1024 + i) 2063 then 39 else 0) else (bif Nat.beq (c * 1024 + i) 2057 then 38 else 0)) else (bif Nat.ble 1133 (c * 1024 + i) then (bif Nat.beq (c * 1024 + i) 1133 then 232 else 0) else (bif Nat.beq (c * 1024 + i) 1130 then 231 else 0))) else (bif Nat.ble 1117 (c * 1024 + i) then (bif Nat.ble 1125 (c * 1024 + i) then (bif Nat.beq (c * 1024 + i) 1125 then 230 else 0) else (bif Nat.beq (c * 1024 + i) 1117 then 213 else 0)) else (bif Nat.ble 1114 (c * 1024 + i) then (bif Nat.beq (c * 1024 + i) 1114 then 212 else 0) else (bif Nat.beq (c * 1024 + i) 1103 then 202 else 0)))) else (bif Nat.ble 1042 (c * 1024 + i) then (bif Nat.ble 1049 (c * 1024 + i) then (bif Nat.ble 1083 (c * 1024 + i) then (bif Nat.beq (c * 1024 + i) 1083 then 207 else 0) else (bif Nat.beq (c * 1024 + i) 1049 then 52 else 0)) else (bif Nat.ble 1045 (c * 1024 + i) then (bif Nat.beq (c * 1024 + i) 1045 then 51 else 0) else (bif Nat.beq (c * 1024 + i) 1042 then 49 else 0))) else (bif Nat.ble 1033 (c * 1024 + i) then (bif Nat.ble 1039 (c * 1024 + i) then (bif Nat.beq (c * 1024 + i) 1039 then 48 else 0) else (bif Nat.beq (c * 1024 + i) 1033 then 47 else 0)) else (bif Nat.ble 20 (c * 1024 + i) then (bif Nat.beq (c * 1024 + i) 20 then 100 else 0) else (bif Nat.beq (c * 1024 + i) 11 then 33 else 0))))))
def q_fc (c i : Nat) : Bool := match q_fl c i with
  | none => true
  | some (cf, k) => Nat.blt cf 6 && Nat.blt k (q_nf cf) && q_has (q_fp c i) (.fieldLink (q_R c) i (q_T cf k).1 (q_T cf k).2.1 (q_T cf k).2.2.1)
set_option maxRecDepth 100000 in
theorem q_fcs : ((List.range 9).all fun c => (List.range 1024).all fun i => q_fc c i) = true := by decide +kernel
theorem q_flok {c i cf k : Nat} (h : q_fl c i = some (cf, k)) : Cond.fieldLink (q_R c) i (q_T cf k).1 (q_T cf k).2.1 (q_T cf k).2.2.1 ∈ wsL_law ∧ cf < 6 ∧ k < q_nf cf := by
  have hg : c < 9 ∧ i < 1024 := by
    unfold q_fl at h
    rcases Nat.lt_or_ge c 9 with h1 | h1
    · rcases Nat.lt_or_ge i 1024 with h2 | h2
      · exact ⟨h1, h2⟩
      · rw [show Nat.ble 1024 i = true from Nat.ble_eq.mpr h2, Bool.or_true, cond_true] at h
        cases h
    · rw [show Nat.ble 9 c = true from Nat.ble_eq.mpr h1, Bool.true_or, cond_true] at h
      cases h
  have h3 := List.all_eq_true.mp (List.all_eq_true.mp q_fcs c (List.mem_range.mpr hg.1)) i (List.mem_range.mpr hg.2)
  simp only [q_fc, h, Bool.and_eq_true] at h3
  exact ⟨q_mem h3.2, by simpa [Nat.blt_eq] using h3.1.1, by simpa [Nat.blt_eq] using h3.1.2⟩
def q_tc (c k : Nat) : Bool := match (q_fk c k).1 with
  | 0 => decide (q_ty c k = .int) && decide ((q_T c k).2.2.2 = false)
  | 1 => decide (q_ty c k = .boolean) && decide ((q_T c k).2.2.2 = false)
  | 2 => decide (q_ty c k = .long) && decide ((q_T c k).2.2.2 = false)
  | 3 => true
  | _ => false
theorem q_tcs : ((List.range 6).all fun c => (List.range (q_nf c)).all fun k => q_tc c k) = true := by decide +kernel
theorem q_tcok {c k : Nat} (h1 : c < 6) (h2 : k < q_nf c) : q_tc c k = true := List.all_eq_true.mp (List.all_eq_true.mp q_tcs c (List.mem_range.mpr h1)) k (List.mem_range.mpr h2)
theorem q_c6 {P : Nat → Prop} (h0 : P 0) (h1 : P 1) (h2 : P 2) (h3 : P 3) (h4 : P 4) (h5 : P 5) {c : Nat} (h : c < 6) : P c := by
  match c, h with
  | 0, _ => exact h0
  | 1, _ => exact h1
  | 2, _ => exact h2
  | 3, _ => exact h3
  | 4, _ => exact h4
  | 5, _ => exact h5
  | n + 6, h => exact absurd h (by omega)
theorem q_inl {c : Nat} (h : c < 6) : ∀ x ∈ u_ws (q_C c) (q_T c) (q_nf c), x ∈ wsL_law := q_c6 (P := fun c => ∀ x ∈ u_ws (q_C c) (q_T c) (q_nf c), x ∈ wsL_law) inlX0 inlX1 inlX2 inlX3 inlX4 inlX5 h
theorem q_nmo {c : Nat} (h : c < 6) : ∀ a, a < q_nf c → ∀ b, b < q_nf c → a ≠ b → (q_T c a).2.1 ≠ (q_T c b).2.1 := q_c6 (P := fun c => ∀ a, a < q_nf c → ∀ b, b < q_nf c → a ≠ b → (q_T c a).2.1 ≠ (q_T c b).2.1) nmX0 nmX1 nmX2 nmX3 nmX4 nmX5 h
theorem q_tyo {c : Nat} (h : c < 6) : ∀ k, k < q_nf c → parseFieldDescriptor (q_T c k).2.2.1 = some (q_ty c k) := q_c6 (P := fun c => ∀ k, k < q_nf c → parseFieldDescriptor (q_T c k).2.2.1 = some (q_ty c k)) tyX0_ok tyX1_ok tyX2_ok tyX3_ok tyX4_ok tyX5_ok h
theorem q_vw {c : Nat} (h : c < 6) : vwCl[c]? = some (q_C c, q_T c, q_nf c) := q_c6 (P := fun c => vwCl[c]? = some (q_C c, q_T c, q_nf c)) rfl rfl rfl rfl rfl rfl h
set_option maxRecDepth 100000 in
theorem q_kw0 : Cond.code (q_nm 0) (q_by 0) (q_mx 0) (q_rt 0) ∈ wsL_law := List.mem_of_getElem? (i := 90) rfl
set_option maxRecDepth 100000 in
theorem q_kw1 : Cond.code (q_nm 1) (q_by 1) (q_mx 1) (q_rt 1) ∈ wsL_law := List.mem_of_getElem? (i := 95) rfl
set_option maxRecDepth 100000 in
theorem q_kw2 : Cond.code (q_nm 2) (q_by 2) (q_mx 2) (q_rt 2) ∈ wsL_law := List.mem_of_getElem? (i := 108) rfl
set_option maxRecDepth 100000 in
theorem q_kw3 : Cond.code (q_nm 3) (q_by 3) (q_mx 3) (q_rt 3) ∈ wsL_law := List.mem_of_getElem? (i := 99) rfl
set_option maxRecDepth 100000 in
theorem q_kw4 : Cond.code (q_nm 4) (q_by 4) (q_mx 4) (q_rt 4) ∈ wsL_law := List.mem_of_getElem? (i := 131) rfl
set_option maxRecDepth 100000 in
theorem q_kw5 : Cond.code (q_nm 5) (q_by 5) (q_mx 5) (q_rt 5) ∈ wsL_law := List.mem_of_getElem? (i := 104) rfl
set_option maxRecDepth 100000 in
theorem q_kw6 : Cond.code (q_nm 6) (q_by 6) (q_mx 6) (q_rt 6) ∈ wsL_law := List.mem_of_getElem? (i := 446) rfl
set_option maxRecDepth 100000 in
theorem q_kw7 : Cond.code (q_nm 7) (q_by 7) (q_mx 7) (q_rt 7) ∈ wsL_law := List.mem_of_getElem? (i := 217) rfl
set_option maxRecDepth 100000 in
theorem q_kw8 : Cond.code (q_nm 8) (q_by 8) (q_mx 8) (q_rt 8) ∈ wsL_law := List.mem_of_getElem? (i := 197) rfl
set_option maxRecDepth 100000 in
theorem q_kw9 : Cond.code (q_nm 9) (q_by 9) (q_mx 9) (q_rt 9) ∈ wsL_law := List.mem_of_getElem? (i := 272) rfl
set_option maxRecDepth 100000 in
theorem q_kw10 : Cond.code (q_nm 10) (q_by 10) (q_mx 10) (q_rt 10) ∈ wsL_law := List.mem_of_getElem? (i := 341) rfl
set_option maxRecDepth 100000 in
theorem q_kw11 : Cond.code (q_nm 11) (q_by 11) (q_mx 11) (q_rt 11) ∈ wsL_law := List.mem_of_getElem? (i := 303) rfl
set_option maxRecDepth 100000 in
theorem q_kw12 : Cond.code (q_nm 12) (q_by 12) (q_mx 12) (q_rt 12) ∈ wsL_law := List.mem_of_getElem? (i := 225) rfl
set_option maxRecDepth 100000 in
theorem q_kw13 : Cond.code (q_nm 13) (q_by 13) (q_mx 13) (q_rt 13) ∈ wsL_law := List.mem_of_getElem? (i := 282) rfl
set_option maxRecDepth 100000 in
theorem q_kw14 : Cond.code (q_nm 14) (q_by 14) (q_mx 14) (q_rt 14) ∈ wsL_law := List.mem_of_getElem? (i := 276) rfl
set_option maxRecDepth 100000 in
theorem q_kw15 : Cond.code (q_nm 15) (q_by 15) (q_mx 15) (q_rt 15) ∈ wsL_law := List.mem_of_getElem? (i := 201) rfl
set_option maxRecDepth 100000 in
theorem q_kw16 : Cond.code (q_nm 16) (q_by 16) (q_mx 16) (q_rt 16) ∈ wsL_law := List.mem_of_getElem? (i := 211) rfl
set_option maxRecDepth 100000 in
theorem q_kw17 : Cond.code (q_nm 17) (q_by 17) (q_mx 17) (q_rt 17) ∈ wsL_law := List.mem_of_getElem? (i := 221) rfl
set_option maxRecDepth 100000 in
theorem q_kw18 : Cond.code (q_nm 18) (q_by 18) (q_mx 18) (q_rt 18) ∈ wsL_law := List.mem_of_getElem? (i := 229) rfl
set_option maxRecDepth 100000 in
theorem q_kw19 : Cond.code (q_nm 19) (q_by 19) (q_mx 19) (q_rt 19) ∈ wsL_law := List.mem_of_getElem? (i := 243) rfl
set_option maxRecDepth 100000 in
theorem q_kw20 : Cond.code (q_nm 20) (q_by 20) (q_mx 20) (q_rt 20) ∈ wsL_law := List.mem_of_getElem? (i := 307) rfl
set_option maxRecDepth 100000 in
theorem q_kw21 : Cond.code (q_nm 21) (q_by 21) (q_mx 21) (q_rt 21) ∈ wsL_law := List.mem_of_getElem? (i := 353) rfl
set_option maxRecDepth 100000 in
theorem q_kw22 : Cond.code (q_nm 22) (q_by 22) (q_mx 22) (q_rt 22) ∈ wsL_law := List.mem_of_getElem? (i := 286) rfl
set_option maxRecDepth 100000 in
theorem q_kw23 : Cond.code (q_nm 23) (q_by 23) (q_mx 23) (q_rt 23) ∈ wsL_law := List.mem_of_getElem? (i := 345) rfl
set_option maxRecDepth 100000 in
theorem q_kw24 : Cond.code (q_nm 24) (q_by 24) (q_mx 24) (q_rt 24) ∈ wsL_law := List.mem_of_getElem? (i := 349) rfl
set_option maxRecDepth 100000 in
theorem q_kw25 : Cond.code (q_nm 25) (q_by 25) (q_mx 25) (q_rt 25) ∈ wsL_law := List.mem_of_getElem? (i := 441) rfl
set_option maxRecDepth 100000 in
theorem q_kw26 : Cond.code (q_nm 26) (q_by 26) (q_mx 26) (q_rt 26) ∈ wsL_law := List.mem_of_getElem? (i := 437) rfl
set_option maxRecDepth 100000 in
theorem q_kw27 : Cond.code (q_nm 27) (q_by 27) (q_mx 27) (q_rt 27) ∈ wsL_law := List.mem_of_getElem? (i := 459) rfl
set_option maxRecDepth 100000 in
theorem q_kw28 : Cond.code (q_nm 28) (q_by 28) (q_mx 28) (q_rt 28) ∈ wsL_law := List.mem_of_getElem? (i := 85) rfl
set_option maxRecDepth 100000 in
theorem q_kw29 : Cond.code (q_nm 29) (q_by 29) (q_mx 29) (q_rt 29) ∈ wsL_law := List.mem_of_getElem? (i := 126) rfl
set_option maxRecDepth 100000 in
theorem q_kw30 : Cond.code (q_nm 30) (q_by 30) (q_mx 30) (q_rt 30) ∈ wsL_law := List.mem_of_getElem? (i := 143) rfl
set_option maxRecDepth 100000 in
theorem q_kw31 : Cond.code (q_nm 31) (q_by 31) (q_mx 31) (q_rt 31) ∈ wsL_law := List.mem_of_getElem? (i := 153) rfl
set_option maxRecDepth 100000 in
theorem q_kw32 : Cond.code (q_nm 32) (q_by 32) (q_mx 32) (q_rt 32) ∈ wsL_law := List.mem_of_getElem? (i := 163) rfl
set_option maxRecDepth 100000 in
theorem q_kw33 : Cond.code (q_nm 33) (q_by 33) (q_mx 33) (q_rt 33) ∈ wsL_law := List.mem_of_getElem? (i := 173) rfl
set_option maxRecDepth 100000 in
theorem q_kw34 : Cond.code (q_nm 34) (q_by 34) (q_mx 34) (q_rt 34) ∈ wsL_law := List.mem_of_getElem? (i := 185) rfl
set_option maxRecDepth 100000 in
theorem q_kw35 : Cond.code (q_nm 35) (q_by 35) (q_mx 35) (q_rt 35) ∈ wsL_law := List.mem_of_getElem? (i := 193) rfl
set_option maxRecDepth 100000 in
theorem q_kw36 : Cond.code (q_nm 36) (q_by 36) (q_mx 36) (q_rt 36) ∈ wsL_law := List.mem_of_getElem? (i := 268) rfl
set_option maxRecDepth 100000 in
theorem q_kw37 : Cond.code (q_nm 37) (q_by 37) (q_mx 37) (q_rt 37) ∈ wsL_law := List.mem_of_getElem? (i := 333) rfl
set_option maxRecDepth 100000 in
theorem q_kw38 : Cond.code (q_nm 38) (q_by 38) (q_mx 38) (q_rt 38) ∈ wsL_law := List.mem_of_getElem? (i := 432) rfl
set_option maxRecDepth 100000 in
theorem q_kw39 : Cond.code (q_nm 39) (q_by 39) (q_mx 39) (q_rt 39) ∈ wsL_law := List.mem_of_getElem? (i := 455) rfl
set_option maxRecDepth 100000 in
theorem q_kw40 : Cond.code (q_nm 40) (q_by 40) (q_mx 40) (q_rt 40) ∈ wsL_law := List.mem_of_getElem? (i := 467) rfl
set_option maxRecDepth 100000 in
theorem q_kw41 : Cond.code (q_nm 41) (q_by 41) (q_mx 41) (q_rt 41) ∈ wsL_law := List.mem_of_getElem? (i := 478) rfl
set_option maxRecDepth 100000 in
theorem q_kw42 : Cond.code (q_nm 42) (q_by 42) (q_mx 42) (q_rt 42) ∈ wsL_law := List.mem_of_getElem? (i := 486) rfl
set_option maxRecDepth 100000 in
theorem q_kw43 : Cond.code (q_nm 43) (q_by 43) (q_mx 43) (q_rt 43) ∈ wsL_law := List.mem_of_getElem? (i := 495) rfl
set_option maxRecDepth 100000 in
theorem q_kw44 : Cond.code (q_nm 44) (q_by 44) (q_mx 44) (q_rt 44) ∈ wsL_law := List.mem_of_getElem? (i := 503) rfl
set_option maxRecDepth 100000 in
theorem q_kw45 : Cond.code (q_nm 45) (q_by 45) (q_mx 45) (q_rt 45) ∈ wsL_law := List.mem_of_getElem? (i := 511) rfl
set_option maxRecDepth 100000 in
theorem q_kw46 : Cond.code (q_nm 46) (q_by 46) (q_mx 46) (q_rt 46) ∈ wsL_law := List.mem_of_getElem? (i := 519) rfl
set_option maxRecDepth 100000 in
theorem q_kw47 : Cond.code (q_nm 47) (q_by 47) (q_mx 47) (q_rt 47) ∈ wsL_law := List.mem_of_getElem? (i := 529) rfl
set_option maxRecDepth 100000 in
theorem q_kw48 : Cond.code (q_nm 48) (q_by 48) (q_mx 48) (q_rt 48) ∈ wsL_law := List.mem_of_getElem? (i := 557) rfl
set_option maxRecDepth 100000 in
theorem q_kw49 : Cond.code (q_nm 49) (q_by 49) (q_mx 49) (q_rt 49) ∈ wsL_law := List.mem_of_getElem? (i := 298) rfl
set_option maxRecDepth 100000 in
theorem q_kw50 : Cond.code (q_nm 50) (q_by 50) (q_mx 50) (q_rt 50) ∈ wsL_law := List.mem_of_getElem? (i := 337) rfl
set_option maxRecDepth 100000 in
theorem q_kw51 : Cond.code (q_nm 51) (q_by 51) (q_mx 51) (q_rt 51) ∈ wsL_law := List.mem_of_getElem? (i := 361) rfl
set_option maxRecDepth 100000 in
theorem q_kw52 : Cond.code (q_nm 52) (q_by 52) (q_mx 52) (q_rt 52) ∈ wsL_law := List.mem_of_getElem? (i := 366) rfl
set_option maxRecDepth 100000 in
theorem q_kw53 : Cond.code (q_nm 53) (q_by 53) (q_mx 53) (q_rt 53) ∈ wsL_law := List.mem_of_getElem? (i := 532) rfl
set_option maxRecDepth 100000 in
theorem q_kw54 : Cond.code (q_nm 54) (q_by 54) (q_mx 54) (q_rt 54) ∈ wsL_law := List.mem_of_getElem? (i := 536) rfl
set_option maxRecDepth 100000 in
theorem q_kw55 : Cond.code (q_nm 55) (q_by 55) (q_mx 55) (q_rt 55) ∈ wsL_law := List.mem_of_getElem? (i := 92) rfl
set_option maxRecDepth 100000 in
theorem q_kw56 : Cond.code (q_nm 56) (q_by 56) (q_mx 56) (q_rt 56) ∈ wsL_law := List.mem_of_getElem? (i := 177) rfl
set_option maxRecDepth 100000 in
theorem q_kw57 : Cond.code (q_nm 57) (q_by 57) (q_mx 57) (q_rt 57) ∈ wsL_law := List.mem_of_getElem? (i := 245) rfl
set_option maxRecDepth 100000 in
theorem q_kw58 : Cond.code (q_nm 58) (q_by 58) (q_mx 58) (q_rt 58) ∈ wsL_law := List.mem_of_getElem? (i := 278) rfl
set_option maxRecDepth 100000 in
theorem q_kw59 : Cond.code (q_nm 59) (q_by 59) (q_mx 59) (q_rt 59) ∈ wsL_law := List.mem_of_getElem? (i := 357) rfl
set_option maxRecDepth 100000 in
theorem q_kw60 : Cond.code (q_nm 60) (q_by 60) (q_mx 60) (q_rt 60) ∈ wsL_law := List.mem_of_getElem? (i := 355) rfl
set_option maxRecDepth 100000 in
theorem q_kw61 : Cond.code (q_nm 61) (q_by 61) (q_mx 61) (q_rt 61) ∈ wsL_law := List.mem_of_getElem? (i := 377) rfl
set_option maxRecDepth 100000 in
theorem q_kw62 : Cond.code (q_nm 62) (q_by 62) (q_mx 62) (q_rt 62) ∈ wsL_law := List.mem_of_getElem? (i := 380) rfl
set_option maxRecDepth 100000 in
theorem q_kw63 : Cond.code (q_nm 63) (q_by 63) (q_mx 63) (q_rt 63) ∈ wsL_law := List.mem_of_getElem? (i := 374) rfl
set_option maxRecDepth 100000 in
theorem q_kw64 : Cond.code (q_nm 64) (q_by 64) (q_mx 64) (q_rt 64) ∈ wsL_law := List.mem_of_getElem? (i := 370) rfl
set_option maxRecDepth 100000 in
theorem q_kw65 : Cond.code (q_nm 65) (q_by 65) (q_mx 65) (q_rt 65) ∈ wsL_law := List.mem_of_getElem? (i := 383) rfl
set_option maxRecDepth 100000 in
theorem q_kw66 : Cond.code (q_nm 66) (q_by 66) (q_mx 66) (q_rt 66) ∈ wsL_law := List.mem_of_getElem? (i := 386) rfl
set_option maxRecDepth 100000 in
theorem q_kw67 : Cond.code (q_nm 67) (q_by 67) (q_mx 67) (q_rt 67) ∈ wsL_law := List.mem_of_getElem? (i := 122) rfl
set_option maxRecDepth 100000 in
theorem q_kw68 : Cond.code (q_nm 68) (q_by 68) (q_mx 68) (q_rt 68) ∈ wsL_law := List.mem_of_getElem? (i := 139) rfl
set_option maxRecDepth 100000 in
theorem q_kw69 : Cond.code (q_nm 69) (q_by 69) (q_mx 69) (q_rt 69) ∈ wsL_law := List.mem_of_getElem? (i := 119) rfl
set_option maxRecDepth 100000 in
theorem q_kw70 : Cond.code (q_nm 70) (q_by 70) (q_mx 70) (q_rt 70) ∈ wsL_law := List.mem_of_getElem? (i := 113) rfl
set_option maxRecDepth 100000 in
theorem q_kw71 : Cond.code (q_nm 71) (q_by 71) (q_mx 71) (q_rt 71) ∈ wsL_law := List.mem_of_getElem? (i := 135) rfl
set_option maxRecDepth 100000 in
theorem q_kw72 : Cond.code (q_nm 72) (q_by 72) (q_mx 72) (q_rt 72) ∈ wsL_law := List.mem_of_getElem? (i := 149) rfl
set_option maxRecDepth 100000 in
theorem q_kw73 : Cond.code (q_nm 73) (q_by 73) (q_mx 73) (q_rt 73) ∈ wsL_law := List.mem_of_getElem? (i := 159) rfl
set_option maxRecDepth 100000 in
theorem q_kw74 : Cond.code (q_nm 74) (q_by 74) (q_mx 74) (q_rt 74) ∈ wsL_law := List.mem_of_getElem? (i := 169) rfl
set_option maxRecDepth 100000 in
theorem q_kw75 : Cond.code (q_nm 75) (q_by 75) (q_mx 75) (q_rt 75) ∈ wsL_law := List.mem_of_getElem? (i := 181) rfl
set_option maxRecDepth 100000 in
theorem q_kw76 : Cond.code (q_nm 76) (q_by 76) (q_mx 76) (q_rt 76) ∈ wsL_law := List.mem_of_getElem? (i := 189) rfl
set_option maxRecDepth 100000 in
theorem q_kw77 : Cond.code (q_nm 77) (q_by 77) (q_mx 77) (q_rt 77) ∈ wsL_law := List.mem_of_getElem? (i := 260) rfl
set_option maxRecDepth 100000 in
theorem q_kw78 : Cond.code (q_nm 78) (q_by 78) (q_mx 78) (q_rt 78) ∈ wsL_law := List.mem_of_getElem? (i := 264) rfl
set_option maxRecDepth 100000 in
theorem q_kw79 : Cond.code (q_nm 79) (q_by 79) (q_mx 79) (q_rt 79) ∈ wsL_law := List.mem_of_getElem? (i := 257) rfl
set_option maxRecDepth 100000 in
theorem q_kw80 : Cond.code (q_nm 80) (q_by 80) (q_mx 80) (q_rt 80) ∈ wsL_law := List.mem_of_getElem? (i := 253) rfl
set_option maxRecDepth 100000 in
theorem q_kw81 : Cond.code (q_nm 81) (q_by 81) (q_mx 81) (q_rt 81) ∈ wsL_law := List.mem_of_getElem? (i := 249) rfl
set_option maxRecDepth 100000 in
theorem q_kw82 : Cond.code (q_nm 82) (q_by 82) (q_mx 82) (q_rt 82) ∈ wsL_law := List.mem_of_getElem? (i := 321) rfl
set_option maxRecDepth 100000 in
theorem q_kw83 : Cond.code (q_nm 83) (q_by 83) (q_mx 83) (q_rt 83) ∈ wsL_law := List.mem_of_getElem? (i := 329) rfl
set_option maxRecDepth 100000 in
theorem q_kw84 : Cond.code (q_nm 84) (q_by 84) (q_mx 84) (q_rt 84) ∈ wsL_law := List.mem_of_getElem? (i := 325) rfl
set_option maxRecDepth 100000 in
theorem q_kw85 : Cond.code (q_nm 85) (q_by 85) (q_mx 85) (q_rt 85) ∈ wsL_law := List.mem_of_getElem? (i := 317) rfl
set_option maxRecDepth 100000 in
theorem q_kw86 : Cond.code (q_nm 86) (q_by 86) (q_mx 86) (q_rt 86) ∈ wsL_law := List.mem_of_getElem? (i := 312) rfl
set_option maxRecDepth 100000 in
theorem q_kw87 : Cond.code (q_nm 87) (q_by 87) (q_mx 87) (q_rt 87) ∈ wsL_law := List.mem_of_getElem? (i := 406) rfl
set_option maxRecDepth 100000 in
theorem q_kw88 : Cond.code (q_nm 88) (q_by 88) (q_mx 88) (q_rt 88) ∈ wsL_law := List.mem_of_getElem? (i := 421) rfl
set_option maxRecDepth 100000 in
theorem q_kw89 : Cond.code (q_nm 89) (q_by 89) (q_mx 89) (q_rt 89) ∈ wsL_law := List.mem_of_getElem? (i := 402) rfl
set_option maxRecDepth 100000 in
theorem q_kw90 : Cond.code (q_nm 90) (q_by 90) (q_mx 90) (q_rt 90) ∈ wsL_law := List.mem_of_getElem? (i := 425) rfl
set_option maxRecDepth 100000 in
theorem q_kw91 : Cond.code (q_nm 91) (q_by 91) (q_mx 91) (q_rt 91) ∈ wsL_law := List.mem_of_getElem? (i := 416) rfl
set_option maxRecDepth 100000 in
theorem q_kw92 : Cond.code (q_nm 92) (q_by 92) (q_mx 92) (q_rt 92) ∈ wsL_law := List.mem_of_getElem? (i := 428) rfl
set_option maxRecDepth 100000 in
theorem q_kw93 : Cond.code (q_nm 93) (q_by 93) (q_mx 93) (q_rt 93) ∈ wsL_law := List.mem_of_getElem? (i := 410) rfl
set_option maxRecDepth 100000 in
theorem q_kw94 : Cond.code (q_nm 94) (q_by 94) (q_mx 94) (q_rt 94) ∈ wsL_law := List.mem_of_getElem? (i := 398) rfl
set_option maxRecDepth 100000 in
theorem q_kw95 : Cond.code (q_nm 95) (q_by 95) (q_mx 95) (q_rt 95) ∈ wsL_law := List.mem_of_getElem? (i := 394) rfl
set_option maxRecDepth 100000 in
theorem q_kw96 : Cond.code (q_nm 96) (q_by 96) (q_mx 96) (q_rt 96) ∈ wsL_law := List.mem_of_getElem? (i := 451) rfl
set_option maxRecDepth 100000 in
theorem q_kw97 : Cond.code (q_nm 97) (q_by 97) (q_mx 97) (q_rt 97) ∈ wsL_law := List.mem_of_getElem? (i := 463) rfl
set_option maxRecDepth 100000 in
theorem q_kw98 : Cond.code (q_nm 98) (q_by 98) (q_mx 98) (q_rt 98) ∈ wsL_law := List.mem_of_getElem? (i := 473) rfl
set_option maxRecDepth 100000 in
theorem q_kw99 : Cond.code (q_nm 99) (q_by 99) (q_mx 99) (q_rt 99) ∈ wsL_law := List.mem_of_getElem? (i := 482) rfl
set_option maxRecDepth 100000 in
theorem q_kw100 : Cond.code (q_nm 100) (q_by 100) (q_mx 100) (q_rt 100) ∈ wsL_law := List.mem_of_getElem? (i := 491) rfl
set_option maxRecDepth 100000 in
theorem q_kw101 : Cond.code (q_nm 101) (q_by 101) (q_mx 101) (q_rt 101) ∈ wsL_law := List.mem_of_getElem? (i := 499) rfl
set_option maxRecDepth 100000 in
theorem q_kw102 : Cond.code (q_nm 102) (q_by 102) (q_mx 102) (q_rt 102) ∈ wsL_law := List.mem_of_getElem? (i := 507) rfl
set_option maxRecDepth 100000 in
theorem q_kw103 : Cond.code (q_nm 103) (q_by 103) (q_mx 103) (q_rt 103) ∈ wsL_law := List.mem_of_getElem? (i := 515) rfl
set_option maxRecDepth 100000 in
theorem q_kw104 : Cond.code (q_nm 104) (q_by 104) (q_mx 104) (q_rt 104) ∈ wsL_law := List.mem_of_getElem? (i := 525) rfl
set_option maxRecDepth 100000 in
theorem q_kw105 : Cond.code (q_nm 105) (q_by 105) (q_mx 105) (q_rt 105) ∈ wsL_law := List.mem_of_getElem? (i := 545) rfl
set_option maxRecDepth 100000 in
theorem q_kw106 : Cond.code (q_nm 106) (q_by 106) (q_mx 106) (q_rt 106) ∈ wsL_law := List.mem_of_getElem? (i := 549) rfl
set_option maxRecDepth 100000 in
theorem q_kw107 : Cond.code (q_nm 107) (q_by 107) (q_mx 107) (q_rt 107) ∈ wsL_law := List.mem_of_getElem? (i := 553) rfl
set_option maxRecDepth 100000 in
theorem q_kw108 : Cond.code (q_nm 108) (q_by 108) (q_mx 108) (q_rt 108) ∈ wsL_law := List.mem_of_getElem? (i := 541) rfl
set_option maxRecDepth 100000 in
theorem q_kw109 : Cond.code (q_nm 109) (q_by 109) (q_mx 109) (q_rt 109) ∈ wsL_law := List.mem_of_getElem? (i := 562) rfl
set_option maxRecDepth 100000 in
theorem q_kw110 : Cond.code (q_nm 110) (q_by 110) (q_mx 110) (q_rt 110) ∈ wsL_law := List.mem_of_getElem? (i := 236) rfl
set_option maxRecDepth 100000 in
theorem q_kw111 : Cond.code (q_nm 111) (q_by 111) (q_mx 111) (q_rt 111) ∈ wsL_law := List.mem_of_getElem? (i := 390) rfl
theorem q_kw : ∀ i, i < 112 → Cond.code (q_nm i) (q_by i) (q_mx i) (q_rt i) ∈ wsL_law
  | 0, _ => q_kw0
  | 1, _ => q_kw1
  | 2, _ => q_kw2
  | 3, _ => q_kw3
  | 4, _ => q_kw4
  | 5, _ => q_kw5
  | 6, _ => q_kw6
  | 7, _ => q_kw7
  | 8, _ => q_kw8
  | 9, _ => q_kw9
  | 10, _ => q_kw10
  | 11, _ => q_kw11
  | 12, _ => q_kw12
  | 13, _ => q_kw13
  | 14, _ => q_kw14
  | 15, _ => q_kw15
  | 16, _ => q_kw16
  | 17, _ => q_kw17
  | 18, _ => q_kw18
  | 19, _ => q_kw19
  | 20, _ => q_kw20
  | 21, _ => q_kw21
  | 22, _ => q_kw22
  | 23, _ => q_kw23
  | 24, _ => q_kw24
  | 25, _ => q_kw25
  | 26, _ => q_kw26
  | 27, _ => q_kw27
  | 28, _ => q_kw28
  | 29, _ => q_kw29
  | 30, _ => q_kw30
  | 31, _ => q_kw31
  | 32, _ => q_kw32
  | 33, _ => q_kw33
  | 34, _ => q_kw34
  | 35, _ => q_kw35
  | 36, _ => q_kw36
  | 37, _ => q_kw37
  | 38, _ => q_kw38
  | 39, _ => q_kw39
  | 40, _ => q_kw40
  | 41, _ => q_kw41
  | 42, _ => q_kw42
  | 43, _ => q_kw43
  | 44, _ => q_kw44
  | 45, _ => q_kw45
  | 46, _ => q_kw46
  | 47, _ => q_kw47
  | 48, _ => q_kw48
  | 49, _ => q_kw49
  | 50, _ => q_kw50
  | 51, _ => q_kw51
  | 52, _ => q_kw52
  | 53, _ => q_kw53
  | 54, _ => q_kw54
  | 55, _ => q_kw55
  | 56, _ => q_kw56
  | 57, _ => q_kw57
  | 58, _ => q_kw58
  | 59, _ => q_kw59
  | 60, _ => q_kw60
  | 61, _ => q_kw61
  | 62, _ => q_kw62
  | 63, _ => q_kw63
  | 64, _ => q_kw64
  | 65, _ => q_kw65
  | 66, _ => q_kw66
  | 67, _ => q_kw67
  | 68, _ => q_kw68
  | 69, _ => q_kw69
  | 70, _ => q_kw70
  | 71, _ => q_kw71
  | 72, _ => q_kw72
  | 73, _ => q_kw73
  | 74, _ => q_kw74
  | 75, _ => q_kw75
  | 76, _ => q_kw76
  | 77, _ => q_kw77
  | 78, _ => q_kw78
  | 79, _ => q_kw79
  | 80, _ => q_kw80
  | 81, _ => q_kw81
  | 82, _ => q_kw82
  | 83, _ => q_kw83
  | 84, _ => q_kw84
  | 85, _ => q_kw85
  | 86, _ => q_kw86
  | 87, _ => q_kw87
  | 88, _ => q_kw88
  | 89, _ => q_kw89
  | 90, _ => q_kw90
  | 91, _ => q_kw91
  | 92, _ => q_kw92
  | 93, _ => q_kw93
  | 94, _ => q_kw94
  | 95, _ => q_kw95
  | 96, _ => q_kw96
  | 97, _ => q_kw97
  | 98, _ => q_kw98
  | 99, _ => q_kw99
  | 100, _ => q_kw100
  | 101, _ => q_kw101
  | 102, _ => q_kw102
  | 103, _ => q_kw103
  | 104, _ => q_kw104
  | 105, _ => q_kw105
  | 106, _ => q_kw106
  | 107, _ => q_kw107
  | 108, _ => q_kw108
  | 109, _ => q_kw109
  | 110, _ => q_kw110
  | 111, _ => q_kw111
  | k + 112, h => absurd h (by omega)
def q_pb (i : Nat) : Nat := bif Nat.ble 56 i then (bif Nat.ble 84 i then (bif Nat.ble 98 i then (bif Nat.ble 105 i then (bif Nat.ble 108 i then (bif Nat.ble 110 i then (bif Nat.ble 111 i then (bif Nat.beq i 111 then 388 else 0) else (bif Nat.beq i 110 then 234 else 0)) else (bif Nat.ble 109 i then (bif Nat.beq i 109 then 560 else 0) else (bif Nat.beq i 108 then 539 else 0))) else (bif Nat.ble 106 i then (bif Nat.ble 107 i then (bif Nat.beq i 107 then 551 else 0) else (bif Nat.beq i 106 then 547 else 0)) else (bif Nat.beq i 105 then 543 else 0))) else (bif Nat.ble 101 i then (bif Nat.ble 103 i then (bif Nat.ble 104 i then (bif Nat.beq i 104 then 523 else 0) else (bif Nat.beq i 103 then 513 else 0)) else (bif Nat.ble 102 i then (bif Nat.beq i 102 then 505 else 0) else (bif Nat.beq i 101 then 497 else 0))) else (bif Nat.ble 99 i then (bif Nat.ble 100 i then (bif Nat.beq i 100 then 489 else 0) else (bif Nat.beq i 99 then 480 else 0)) else (bif Nat.beq i 98 then 471 else 0)))) else (bif Nat.ble 91 i then (bif Nat.ble 94 i then (bif Nat.ble 96 i then (bif Nat.ble 97 i then (bif Nat.beq i 97 then 461 else 0) else (bif Nat.beq i 96 then 449 else 0)) else (bif Nat.ble 95 i then (bif Nat.beq i 95 then 392 else 0) else (bif Nat.beq i 94 then 396 else 0))) else (bif Nat.ble 92 i then (bif Nat.ble 93 i then (bif Nat.beq i 93 then 408 else 0) else (bif Nat.beq i 92 then 427 else 0)) else (bif Nat.beq i 91 then 414 else 0))) else (bif Nat.ble 87 i then (bif Nat.ble 89 i then (bif Nat.ble 90 i then (bif Nat.beq i 90 then 423 else 0) else (bif Nat.beq i 89 then 400 else 0)) else (bif Nat.ble 88 i then (bif Nat.beq i 88 then 419 else 0) else (bif Nat.beq i 87 then 404 else 0))) else (bif Nat.ble 85 i then (bif Nat.ble 86 i then (bif Nat.beq i 86 then 310 else 0) else (bif Nat.beq i 85 then 315 else 0)) else (bif Nat.beq i 84 then 323 else 0))))) else (bif Nat.ble 70 i then (bif Nat.ble 77 i then (bif Nat.ble 80 i then (bif Nat.ble 82 i then (bif Nat.ble 83 i then (bif Nat.beq i 83 then 327 else 0) else (bif Nat.beq i 82 then 319 else 0)) else (bif Nat.ble 81 i then (bif Nat.beq i 81 then 247 else 0) else (bif Nat.beq i 80 then 251 else 0))) else (bif Nat.ble 78 i then (bif Nat.ble 79 i then (bif Nat.beq i 79 then 255 else 0) else (bif Nat.beq i 78 then 262 else 0)) else (bif Nat.beq i 77 then 259 else 0))) else (bif Nat.ble 73 i then (bif Nat.ble 75 i then (bif Nat.ble 76 i then (bif Nat.beq i 76 then 187 else 0) else (bif Nat.beq i 75 then 179 else 0)) else (bif Nat.ble 74 i then (bif Nat.beq i 74 then 167 else 0) else (bif Nat.beq i 73 then 157 else 0))) else (bif Nat.ble 71 i then (bif Nat.ble 72 i then (bif Nat.beq i 72 then 147 else 0) else (bif Nat.beq i 71 then 133 else 0)) else (bif Nat.beq i 70 then 111 else 0)))) else (bif Nat.ble 63 i then (bif Nat.ble 66 i then (bif Nat.ble 68 i then (bif Nat.ble 69 i then (bif Nat.beq i 69 then 118 else 0) else (bif Nat.beq i 68 then 137 else 0)) else (bif Nat.ble 67 i then (bif Nat.beq i 67 then 121 else 0) else (bif Nat.beq i 66 then 385 else 0))) else (bif Nat.ble 64 i then (bif Nat.ble 65 i then (bif Nat.beq i 65 then 382 else 0) else (bif Nat.beq i 64 then 369 else 0)) else (bif Nat.beq i 63 then 373 else 0))) else (bif Nat.ble 59 i then (bif Nat.ble 61 i then (bif Nat.ble 62 i then (bif Nat.beq i 62 then 379 else 0) else (bif Nat.beq i 61 then 376 else 0)) else (bif Nat.ble 60 i then (bif Nat.beq i 60 then 354 else 0) else (bif Nat.beq i 59 then 356 else 0))) else (bif Nat.ble 57 i then (bif Nat.ble 58 i then (bif Nat.beq i 58 then 277 else 0) else (bif Nat.beq i 57 then 244 else 0)) else (bif Nat.beq i 56 then 176 else 0)))))) else (bif Nat.ble 28 i then (bif Nat.ble 42 i then (bif Nat.ble 49 i then (bif Nat.ble 52 i then (bif Nat.ble 54 i then (bif Nat.ble 55 i then (bif Nat.beq i 55 then 91 else 0) else (bif Nat.beq i 54 then 535 else 0)) else (bif Nat.ble 53 i then (bif Nat.beq i 53 then 531 else 0) else (bif Nat.beq i 52 then 364 else 0))) else (bif Nat.ble 50 i then (bif Nat.ble 51 i then (bif Nat.beq i 51 then 359 else 0) else (bif Nat.beq i 50 then 335 else 0)) else (bif Nat.beq i 49 then 296 else 0))) else (bif Nat.ble 45 i then (bif Nat.ble 47 i then (bif Nat.ble 48 i then (bif Nat.beq i 48 then 555 else 0) else (bif Nat.beq i 47 then 527 else 0)) else (bif Nat.ble 46 i then (bif Nat.beq i 46 then 517 else 0) else (bif Nat.beq i 45 then 509 else 0))) else (bif Nat.ble 43 i then (bif Nat.ble 44 i then (bif Nat.beq i 44 then 501 else 0) else (bif Nat.beq i 43 then 493 else 0)) else (bif Nat.beq i 42 then 484 else 0)))) else (bif Nat.ble 35 i then (bif Nat.ble 38 i then (bif Nat.ble 40 i then (bif Nat.ble 41 i then (bif Nat.beq i 41 then 476 else 0) else (bif Nat.beq i 40 then 465 else 0)) else (bif Nat.ble 39 i then (bif Nat.beq i 39 then 453 else 0) else (bif Nat.beq i 38 then 430 else 0))) else (bif Nat.ble 36 i then (bif Nat.ble 37 i then (bif Nat.beq i 37 then 331 else 0) else (bif Nat.beq i 36 then 266 else 0)) else (bif Nat.beq i 35 then 191 else 0))) else (bif Nat.ble 31 i then (bif Nat.ble 33 i then (bif Nat.ble 34 i then (bif Nat.beq i 34 then 183 else 0) else (bif Nat.beq i 33 then 171 else 0)) else (bif Nat.ble 32 i then (bif Nat.beq i 32 then 161 else 0) else (bif Nat.beq i 31 then 151 else 0))) else (bif Nat.ble 29 i then (bif Nat.ble 30 i then (bif Nat.beq i 30 then 141 else 0) else (bif Nat.beq i 29 then 124 else 0)) else (bif Nat.beq i 28 then 83 else 0))))) else (bif Nat.ble 14 i then (bif Nat.ble 21 i then (bif Nat.ble 24 i then (bif Nat.ble 26 i then (bif Nat.ble 27 i then (bif Nat.beq i 27 then 457 else 0) else (bif Nat.beq i 26 then 435 else 0)) else (bif Nat.ble 25 i then (bif Nat.beq i 25 then 439 else 0) else (bif Nat.beq i 24 then 347 else 0))) else (bif Nat.ble 22 i then (bif Nat.ble 23 i then (bif Nat.beq i 23 then 343 else 0) else (bif Nat.beq i 22 then 284 else 0)) else (bif Nat.beq i 21 then 351 else 0))) else (bif Nat.ble 17 i then (bif Nat.ble 19 i then (bif Nat.ble 20 i then (bif Nat.beq i 20 then 305 else 0) else (bif Nat.beq i 19 then 241 else 0)) else (bif Nat.ble 18 i then (bif Nat.beq i 18 then 227 else 0) else (bif Nat.beq i 17 then 219 else 0))) else (bif Nat.ble 15 i then (bif Nat.ble 16 i then (bif Nat.beq i 16 then 209 else 0) else (bif Nat.beq i 15 then 199 else 0)) else (bif Nat.beq i 14 then 274 else 0)))) else (bif Nat.ble 7 i then (bif Nat.ble 10 i then (bif Nat.ble 12 i then (bif Nat.ble 13 i then (bif Nat.beq i 13 then 280 else 0) else (bif Nat.beq i 12 then 223 else 0)) else (bif Nat.ble 11 i then (bif Nat.beq i 11 then 301 else 0) else (bif Nat.beq i 10 then 339 else 0))) else (bif Nat.ble 8 i then (bif Nat.ble 9 i then (bif Nat.beq i 9 then 270 else 0) else (bif Nat.beq i 8 then 195 else 0)) else (bif Nat.beq i 7 then 215 else 0))) else (bif Nat.ble 3 i then (bif Nat.ble 5 i then (bif Nat.ble 6 i then (bif Nat.beq i 6 then 444 else 0) else (bif Nat.beq i 5 then 102 else 0)) else (bif Nat.ble 4 i then (bif Nat.beq i 4 then 129 else 0) else (bif Nat.beq i 3 then 97 else 0))) else (bif Nat.ble 1 i then (bif Nat.ble 2 i then (bif Nat.beq i 2 then 106 else 0) else (bif Nat.beq i 1 then 94 else 0)) else (bif Nat.beq i 0 then 89 else 0))))))
def q_pc (i : Nat) : Nat := bif Nat.ble 56 i then (bif Nat.ble 84 i then (bif Nat.ble 98 i then (bif Nat.ble 105 i then (bif Nat.ble 108 i then (bif Nat.ble 110 i then (bif Nat.ble 111 i then (bif Nat.beq i 111 then 0 else 0) else (bif Nat.beq i 110 then 0 else 0)) else (bif Nat.ble 109 i then (bif Nat.beq i 109 then 561 else 0) else (bif Nat.beq i 108 then 540 else 0))) else (bif Nat.ble 106 i then (bif Nat.ble 107 i then (bif Nat.beq i 107 then 552 else 0) else (bif Nat.beq i 106 then 548 else 0)) else (bif Nat.beq i 105 then 544 else 0))) else (bif Nat.ble 101 i then (bif Nat.ble 103 i then (bif Nat.ble 104 i then (bif Nat.beq i 104 then 524 else 0) else (bif Nat.beq i 103 then 514 else 0)) else (bif Nat.ble 102 i then (bif Nat.beq i 102 then 506 else 0) else (bif Nat.beq i 101 then 498 else 0))) else (bif Nat.ble 99 i then (bif Nat.ble 100 i then (bif Nat.beq i 100 then 490 else 0) else (bif Nat.beq i 99 then 481 else 0)) else (bif Nat.beq i 98 then 472 else 0)))) else (bif Nat.ble 91 i then (bif Nat.ble 94 i then (bif Nat.ble 96 i then (bif Nat.ble 97 i then (bif Nat.beq i 97 then 462 else 0) else (bif Nat.beq i 96 then 450 else 0)) else (bif Nat.ble 95 i then (bif Nat.beq i 95 then 393 else 0) else (bif Nat.beq i 94 then 397 else 0))) else (bif Nat.ble 92 i then (bif Nat.ble 93 i then (bif Nat.beq i 93 then 409 else 0) else (bif Nat.beq i 92 then 0 else 0)) else (bif Nat.beq i 91 then 415 else 0))) else (bif Nat.ble 87 i then (bif Nat.ble 89 i then (bif Nat.ble 90 i then (bif Nat.beq i 90 then 424 else 0) else (bif Nat.beq i 89 then 401 else 0)) else (bif Nat.ble 88 i then (bif Nat.beq i 88 then 420 else 0) else (bif Nat.beq i 87 then 405 else 0))) else (bif Nat.ble 85 i then (bif Nat.ble 86 i then (bif Nat.beq i 86 then 311 else 0) else (bif Nat.beq i 85 then 316 else 0)) else (bif Nat.beq i 84 then 324 else 0))))) else (bif Nat.ble 70 i then (bif Nat.ble 77 i then (bif Nat.ble 80 i then (bif Nat.ble 82 i then (bif Nat.ble 83 i then (bif Nat.beq i 83 then 328 else 0) else (bif Nat.beq i 82 then 320 else 0)) else (bif Nat.ble 81 i then (bif Nat.beq i 81 then 248 else 0) else (bif Nat.beq i 80 then 252 else 0))) else (bif Nat.ble 78 i then (bif Nat.ble 79 i then (bif Nat.beq i 79 then 256 else 0) else (bif Nat.beq i 78 then 263 else 0)) else (bif Nat.beq i 77 then 0 else 0))) else (bif Nat.ble 73 i then (bif Nat.ble 75 i then (bif Nat.ble 76 i then (bif Nat.beq i 76 then 188 else 0) else (bif Nat.beq i 75 then 180 else 0)) else (bif Nat.ble 74 i then (bif Nat.beq i 74 then 168 else 0) else (bif Nat.beq i 73 then 158 else 0))) else (bif Nat.ble 71 i then (bif Nat.ble 72 i then (bif Nat.beq i 72 then 148 else 0) else (bif Nat.beq i 71 then 134 else 0)) else (bif Nat.beq i 70 then 112 else 0)))) else (bif Nat.ble 63 i then (bif Nat.ble 66 i then (bif Nat.ble 68 i then (bif Nat.ble 69 i then (bif Nat.beq i 69 then 0 else 0) else (bif Nat.beq i 68 then 138 else 0)) else (bif Nat.ble 67 i then (bif Nat.beq i 67 then 0 else 0) else (bif Nat.beq i 66 then 0 else 0))) else (bif Nat.ble 64 i then (bif Nat.ble 65 i then (bif Nat.beq i 65 then 0 else 0) else (bif Nat.beq i 64 then 0 else 0)) else (bif Nat.beq i 63 then 0 else 0))) else (bif Nat.ble 59 i then (bif Nat.ble 61 i then (bif Nat.ble 62 i then (bif Nat.beq i 62 then 0 else 0) else (bif Nat.beq i 61 then 0 else 0)) else (bif Nat.ble 60 i then (bif Nat.beq i 60 then 0 else 0) else (bif Nat.beq i 59 then 0 else 0))) else (bif Nat.ble 57 i then (bif Nat.ble 58 i then (bif Nat.beq i 58 then 0 else 0) else (bif Nat.beq i 57 then 0 else 0)) else (bif Nat.beq i 56 then 0 else 0)))))) else (bif Nat.ble 28 i then (bif Nat.ble 42 i then (bif Nat.ble 49 i then (bif Nat.ble 52 i then (bif Nat.ble 54 i then (bif Nat.ble 55 i then (bif Nat.beq i 55 then 0 else 0) else (bif Nat.beq i 54 then 0 else 0)) else (bif Nat.ble 53 i then (bif Nat.beq i 53 then 0 else 0) else (bif Nat.beq i 52 then 365 else 0))) else (bif Nat.ble 50 i then (bif Nat.ble 51 i then (bif Nat.beq i 51 then 360 else 0) else (bif Nat.beq i 50 then 336 else 0)) else (bif Nat.beq i 49 then 297 else 0))) else (bif Nat.ble 45 i then (bif Nat.ble 47 i then (bif Nat.ble 48 i then (bif Nat.beq i 48 then 556 else 0) else (bif Nat.beq i 47 then 528 else 0)) else (bif Nat.ble 46 i then (bif Nat.beq i 46 then 518 else 0) else (bif Nat.beq i 45 then 510 else 0))) else (bif Nat.ble 43 i then (bif Nat.ble 44 i then (bif Nat.beq i 44 then 502 else 0) else (bif Nat.beq i 43 then 494 else 0)) else (bif Nat.beq i 42 then 485 else 0)))) else (bif Nat.ble 35 i then (bif Nat.ble 38 i then (bif Nat.ble 40 i then (bif Nat.ble 41 i then (bif Nat.beq i 41 then 477 else 0) else (bif Nat.beq i 40 then 466 else 0)) else (bif Nat.ble 39 i then (bif Nat.beq i 39 then 454 else 0) else (bif Nat.beq i 38 then 431 else 0))) else (bif Nat.ble 36 i then (bif Nat.ble 37 i then (bif Nat.beq i 37 then 332 else 0) else (bif Nat.beq i 36 then 267 else 0)) else (bif Nat.beq i 35 then 192 else 0))) else (bif Nat.ble 31 i then (bif Nat.ble 33 i then (bif Nat.ble 34 i then (bif Nat.beq i 34 then 184 else 0) else (bif Nat.beq i 33 then 172 else 0)) else (bif Nat.ble 32 i then (bif Nat.beq i 32 then 162 else 0) else (bif Nat.beq i 31 then 152 else 0))) else (bif Nat.ble 29 i then (bif Nat.ble 30 i then (bif Nat.beq i 30 then 142 else 0) else (bif Nat.beq i 29 then 125 else 0)) else (bif Nat.beq i 28 then 84 else 0))))) else (bif Nat.ble 14 i then (bif Nat.ble 21 i then (bif Nat.ble 24 i then (bif Nat.ble 26 i then (bif Nat.ble 27 i then (bif Nat.beq i 27 then 458 else 0) else (bif Nat.beq i 26 then 436 else 0)) else (bif Nat.ble 25 i then (bif Nat.beq i 25 then 440 else 0) else (bif Nat.beq i 24 then 348 else 0))) else (bif Nat.ble 22 i then (bif Nat.ble 23 i then (bif Nat.beq i 23 then 344 else 0) else (bif Nat.beq i 22 then 285 else 0)) else (bif Nat.beq i 21 then 352 else 0))) else (bif Nat.ble 17 i then (bif Nat.ble 19 i then (bif Nat.ble 20 i then (bif Nat.beq i 20 then 306 else 0) else (bif Nat.beq i 19 then 242 else 0)) else (bif Nat.ble 18 i then (bif Nat.beq i 18 then 228 else 0) else (bif Nat.beq i 17 then 220 else 0))) else (bif Nat.ble 15 i then (bif Nat.ble 16 i then (bif Nat.beq i 16 then 210 else 0) else (bif Nat.beq i 15 then 200 else 0)) else (bif Nat.beq i 14 then 275 else 0)))) else (bif Nat.ble 7 i then (bif Nat.ble 10 i then (bif Nat.ble 12 i then (bif Nat.ble 13 i then (bif Nat.beq i 13 then 281 else 0) else (bif Nat.beq i 12 then 224 else 0)) else (bif Nat.ble 11 i then (bif Nat.beq i 11 then 302 else 0) else (bif Nat.beq i 10 then 340 else 0))) else (bif Nat.ble 8 i then (bif Nat.ble 9 i then (bif Nat.beq i 9 then 271 else 0) else (bif Nat.beq i 8 then 196 else 0)) else (bif Nat.beq i 7 then 216 else 0))) else (bif Nat.ble 3 i then (bif Nat.ble 5 i then (bif Nat.ble 6 i then (bif Nat.beq i 6 then 445 else 0) else (bif Nat.beq i 5 then 103 else 0)) else (bif Nat.ble 4 i then (bif Nat.beq i 4 then 130 else 0) else (bif Nat.beq i 3 then 98 else 0))) else (bif Nat.ble 1 i then (bif Nat.ble 2 i then (bif Nat.beq i 2 then 107 else 0) else (bif Nat.beq i 1 then 0 else 0)) else (bif Nat.beq i 0 then 0 else 0))))))
def q_pd (i : Nat) : Nat := bif Nat.ble 56 i then (bif Nat.ble 84 i then (bif Nat.ble 98 i then (bif Nat.ble 105 i then (bif Nat.ble 108 i then (bif Nat.ble 110 i then (bif Nat.ble 111 i then (bif Nat.beq i 111 then 389 else 0) else (bif Nat.beq i 110 then 235 else 0)) else (bif Nat.ble 109 i then (bif Nat.beq i 109 then 5 else 0) else (bif Nat.beq i 108 then 5 else 0))) else (bif Nat.ble 106 i then (bif Nat.ble 107 i then (bif Nat.beq i 107 then 5 else 0) else (bif Nat.beq i 106 then 5 else 0)) else (bif Nat.beq i 105 then 5 else 0))) else (bif Nat.ble 101 i then (bif Nat.ble 103 i then (bif Nat.ble 104 i then (bif Nat.beq i 104 then 5 else 0) else (bif Nat.beq i 103 then 5 else 0)) else (bif Nat.ble 102 i then (bif Nat.beq i 102 then 5 else 0) else (bif Nat.beq i 101 then 5 else 0))) else (bif Nat.ble 99 i then (bif Nat.ble 100 i then (bif Nat.beq i 100 then 5 else 0) else (bif Nat.beq i 99 then 5 else 0)) else (bif Nat.beq i 98 then 5 else 0)))) else (bif Nat.ble 91 i then (bif Nat.ble 94 i then (bif Nat.ble 96 i then (bif Nat.ble 97 i then (bif Nat.beq i 97 then 5 else 0) else (bif Nat.beq i 96 then 5 else 0)) else (bif Nat.ble 95 i then (bif Nat.beq i 95 then 5 else 0) else (bif Nat.beq i 94 then 5 else 0))) else (bif Nat.ble 92 i then (bif Nat.ble 93 i then (bif Nat.beq i 93 then 5 else 0) else (bif Nat.beq i 92 then 5 else 0)) else (bif Nat.beq i 91 then 5 else 0))) else (bif Nat.ble 87 i then (bif Nat.ble 89 i then (bif Nat.ble 90 i then (bif Nat.beq i 90 then 5 else 0) else (bif Nat.beq i 89 then 5 else 0)) else (bif Nat.ble 88 i then (bif Nat.beq i 88 then 5 else 0) else (bif Nat.beq i 87 then 5 else 0))) else (bif Nat.ble 85 i then (bif Nat.ble 86 i then (bif Nat.beq i 86 then 5 else 0) else (bif Nat.beq i 85 then 5 else 0)) else (bif Nat.beq i 84 then 5 else 0))))) else (bif Nat.ble 70 i then (bif Nat.ble 77 i then (bif Nat.ble 80 i then (bif Nat.ble 82 i then (bif Nat.ble 83 i then (bif Nat.beq i 83 then 5 else 0) else (bif Nat.beq i 82 then 5 else 0)) else (bif Nat.ble 81 i then (bif Nat.beq i 81 then 5 else 0) else (bif Nat.beq i 80 then 5 else 0))) else (bif Nat.ble 78 i then (bif Nat.ble 79 i then (bif Nat.beq i 79 then 5 else 0) else (bif Nat.beq i 78 then 5 else 0)) else (bif Nat.beq i 77 then 5 else 0))) else (bif Nat.ble 73 i then (bif Nat.ble 75 i then (bif Nat.ble 76 i then (bif Nat.beq i 76 then 5 else 0) else (bif Nat.beq i 75 then 5 else 0)) else (bif Nat.ble 74 i then (bif Nat.beq i 74 then 5 else 0) else (bif Nat.beq i 73 then 5 else 0))) else (bif Nat.ble 71 i then (bif Nat.ble 72 i then (bif Nat.beq i 72 then 5 else 0) else (bif Nat.beq i 71 then 5 else 0)) else (bif Nat.beq i 70 then 5 else 0)))) else (bif Nat.ble 63 i then (bif Nat.ble 66 i then (bif Nat.ble 68 i then (bif Nat.ble 69 i then (bif Nat.beq i 69 then 5 else 0) else (bif Nat.beq i 68 then 5 else 0)) else (bif Nat.ble 67 i then (bif Nat.beq i 67 then 5 else 0) else (bif Nat.beq i 66 then 2 else 0))) else (bif Nat.ble 64 i then (bif Nat.ble 65 i then (bif Nat.beq i 65 then 2 else 0) else (bif Nat.beq i 64 then 2 else 0)) else (bif Nat.beq i 63 then 2 else 0))) else (bif Nat.ble 59 i then (bif Nat.ble 61 i then (bif Nat.ble 62 i then (bif Nat.beq i 62 then 2 else 0) else (bif Nat.beq i 61 then 2 else 0)) else (bif Nat.ble 60 i then (bif Nat.beq i 60 then 2 else 0) else (bif Nat.beq i 59 then 2 else 0))) else (bif Nat.ble 57 i then (bif Nat.ble 58 i then (bif Nat.beq i 58 then 2 else 0) else (bif Nat.beq i 57 then 2 else 0)) else (bif Nat.beq i 56 then 2 else 0)))))) else (bif Nat.ble 28 i then (bif Nat.ble 42 i then (bif Nat.ble 49 i then (bif Nat.ble 52 i then (bif Nat.ble 54 i then (bif Nat.ble 55 i then (bif Nat.beq i 55 then 2 else 0) else (bif Nat.beq i 54 then 2 else 0)) else (bif Nat.ble 53 i then (bif Nat.beq i 53 then 2 else 0) else (bif Nat.beq i 52 then 2 else 0))) else (bif Nat.ble 50 i then (bif Nat.ble 51 i then (bif Nat.beq i 51 then 2 else 0) else (bif Nat.beq i 50 then 2 else 0)) else (bif Nat.beq i 49 then 2 else 0))) else (bif Nat.ble 45 i then (bif Nat.ble 47 i then (bif Nat.ble 48 i then (bif Nat.beq i 48 then 2 else 0) else (bif Nat.beq i 47 then 2 else 0)) else (bif Nat.ble 46 i then (bif Nat.beq i 46 then 2 else 0) else (bif Nat.beq i 45 then 2 else 0))) else (bif Nat.ble 43 i then (bif Nat.ble 44 i then (bif Nat.beq i 44 then 2 else 0) else (bif Nat.beq i 43 then 2 else 0)) else (bif Nat.beq i 42 then 2 else 0)))) else (bif Nat.ble 35 i then (bif Nat.ble 38 i then (bif Nat.ble 40 i then (bif Nat.ble 41 i then (bif Nat.beq i 41 then 2 else 0) else (bif Nat.beq i 40 then 2 else 0)) else (bif Nat.ble 39 i then (bif Nat.beq i 39 then 2 else 0) else (bif Nat.beq i 38 then 2 else 0))) else (bif Nat.ble 36 i then (bif Nat.ble 37 i then (bif Nat.beq i 37 then 2 else 0) else (bif Nat.beq i 36 then 2 else 0)) else (bif Nat.beq i 35 then 2 else 0))) else (bif Nat.ble 31 i then (bif Nat.ble 33 i then (bif Nat.ble 34 i then (bif Nat.beq i 34 then 2 else 0) else (bif Nat.beq i 33 then 2 else 0)) else (bif Nat.ble 32 i then (bif Nat.beq i 32 then 2 else 0) else (bif Nat.beq i 31 then 2 else 0))) else (bif Nat.ble 29 i then (bif Nat.ble 30 i then (bif Nat.beq i 30 then 2 else 0) else (bif Nat.beq i 29 then 2 else 0)) else (bif Nat.beq i 28 then 2 else 0))))) else (bif Nat.ble 14 i then (bif Nat.ble 21 i then (bif Nat.ble 24 i then (bif Nat.ble 26 i then (bif Nat.ble 27 i then (bif Nat.beq i 27 then 26 else 0) else (bif Nat.beq i 26 then 26 else 0)) else (bif Nat.ble 25 i then (bif Nat.beq i 25 then 26 else 0) else (bif Nat.beq i 24 then 26 else 0))) else (bif Nat.ble 22 i then (bif Nat.ble 23 i then (bif Nat.beq i 23 then 26 else 0) else (bif Nat.beq i 22 then 26 else 0)) else (bif Nat.beq i 21 then 18 else 0))) else (bif Nat.ble 17 i then (bif Nat.ble 19 i then (bif Nat.ble 20 i then (bif Nat.beq i 20 then 22 else 0) else (bif Nat.beq i 19 then 22 else 0)) else (bif Nat.ble 18 i then (bif Nat.beq i 18 then 22 else 0) else (bif Nat.beq i 17 then 22 else 0))) else (bif Nat.ble 15 i then (bif Nat.ble 16 i then (bif Nat.beq i 16 then 22 else 0) else (bif Nat.beq i 15 then 22 else 0)) else (bif Nat.beq i 14 then 22 else 0)))) else (bif Nat.ble 7 i then (bif Nat.ble 10 i then (bif Nat.ble 12 i then (bif Nat.ble 13 i then (bif Nat.beq i 13 then 22 else 0) else (bif Nat.beq i 12 then 22 else 0)) else (bif Nat.ble 11 i then (bif Nat.beq i 11 then 22 else 0) else (bif Nat.beq i 10 then 22 else 0))) else (bif Nat.ble 8 i then (bif Nat.ble 9 i then (bif Nat.beq i 9 then 22 else 0) else (bif Nat.beq i 8 then 22 else 0)) else (bif Nat.beq i 7 then 14 else 0))) else (bif Nat.ble 3 i then (bif Nat.ble 5 i then (bif Nat.ble 6 i then (bif Nat.beq i 6 then 14 else 0) else (bif Nat.beq i 5 then 14 else 0)) else (bif Nat.ble 4 i then (bif Nat.beq i 4 then 14 else 0) else (bif Nat.beq i 3 then 14 else 0))) else (bif Nat.ble 1 i then (bif Nat.ble 2 i then (bif Nat.beq i 2 then 14 else 0) else (bif Nat.beq i 1 then 14 else 0)) else (bif Nat.beq i 0 then 14 else 0))))))
def q_mc (i : Nat) : Bool := q_has (q_pd i) (.initialized (q_nm i).cls) && (bif q_st i then q_has (q_pb i) (.static (q_nm i)) else q_has (q_pb i) (.instanceMethod (q_nm i)) && q_has (q_pc i) (.selects (q_R (q_oc i)) (q_nm i) (q_nm i)))
  && decide ((q_nm i).cls = q_R (q_oc i)) && plainName (q_nm i).cls && decide ((q_nm i).cls ≠ "java/lang/invoke/MethodHandle") && decide ((q_nm i).cls ≠ "java/lang/invoke/VarHandle") && decide ((parseMethodDescriptor (q_nm i).desc).map (fun d => d.parameters.length) = some (q_np i)) && Nat.ble (q_mx i) 45
  && (match q_rk i with | 0 => decide (q_rt i = some .int) | 1 => decide (q_rt i = some .boolean) | 2 => decide (q_rt i = some .long) | 3 => decide (q_rt i = none) | 4 => decide (q_rt i = some (.array .int)) | _ => false)
set_option maxRecDepth 100000 in
theorem q_mcs : ((List.range 112).all fun i => q_mc i) = true := by decide +kernel
theorem q_mcok {i : Nat} (h : i < 112) : q_mc i = true := List.all_eq_true.mp q_mcs i (List.mem_range.mpr h)
def q_mp (c i : Nat) : Nat := bif Nat.ble 4317 (c * 1024 + i) then (bif Nat.ble 6180 (c * 1024 + i) then (bif Nat.ble 6214 (c * 1024 + i) then (bif Nat.ble 6230 (c * 1024 + i) then (bif Nat.ble 6238 (c * 1024 + i) then (bif Nat.ble 6242 (c * 1024 + i) then (bif Nat.ble 6243 (c * 1024 + i) then (bif Nat.ble 6246 (c * 1024 + i) then (bif Nat.beq (c * 1024 + i) 6246 then 559 else 0) else (bif Nat.beq (c * 1024 + i) 6243 then 554 else 0)) else (bif Nat.beq (c * 1024 + i) 6242 then 538 else 0)) else (bif Nat.ble 6239 (c * 1024 + i) then (bif Nat.beq (c * 1024 + i) 6239 then 526 else 0) else (bif Nat.beq (c * 1024 + i) 6238 then 522 else 0))) else (bif Nat.ble 6234 (c * 1024 + i) then (bif Nat.ble 6235 (c * 1024 + i) then (bif Nat.beq (c * 1024 + i) 6235 then 516 else 0) else (bif Nat.beq (c * 1024 + i) 6234 then 512 else 0)) else (bif Nat.ble 6231 (c * 1024 + i) then (bif Nat.beq (c * 1024 + i) 6231 then 508 else 0) else (bif Nat.beq (c * 1024 + i) 6230 then 504 else 0)))) else (bif Nat.ble 6222 (c * 1024 + i) then (bif Nat.ble 6226 (c * 1024 + i) then (bif Nat.ble 6227 (c * 1024 + i) then (bif Nat.beq (c * 1024 + i) 6227 then 500 else 0) else (bif Nat.beq (c * 1024 + i) 6226 then 496 else 0)) else (bif Nat.ble 6223 (c * 1024 + i) then (bif Nat.beq (c * 1024 + i) 6223 then 492 else 0) else (bif Nat.beq (c * 1024 + i) 6222 then 488 else 0))) else (bif Nat.ble 6218 (c * 1024 + i) then (bif Nat.ble 6219 (c * 1024 + i) then (bif Nat.beq (c * 1024 + i) 6219 then 483 else 0) else (bif Nat.beq (c * 1024 + i) 6218 then 479 else 0)) else (bif Nat.ble 6215 (c * 1024 + i) then (bif Nat.beq (c * 1024 + i) 6215 then 475 else 0) else (bif Nat.beq (c * 1024 + i) 6214 then 470 else 0))))) else (bif Nat.ble 6197 (c * 1024 + i) then (bif Nat.ble 6206 (c * 1024 + i) then (bif Nat.ble 6210 (c * 1024 + i) then (bif Nat.ble 6211 (c * 1024 + i) then (bif Nat.beq (c * 1024 + i) 6211 then 464 else 0) else (bif Nat.beq (c * 1024 + i) 6210 then 460 else 0)) else (bif Nat.ble 6207 (c * 1024 + i) then (bif Nat.beq (c * 1024 + i) 6207 then 452 else 0) else (bif Nat.beq (c * 1024 + i) 6206 then 448 else 0))) else (bif Nat.ble 6201 (c * 1024 + i) then (bif Nat.ble 6202 (c * 1024 + i) then (bif Nat.beq (c * 1024 + i) 6202 then 429 else 0) else (bif Nat.beq (c * 1024 + i) 6201 then 391 else 0)) else (bif Nat.ble 6198 (c * 1024 + i) then (bif Nat.beq (c * 1024 + i) 6198 then 330 else 0) else (bif Nat.beq (c * 1024 + i) 6197 then 309 else 0)))) else (bif Nat.ble 6188 (c * 1024 + i) then (bif Nat.ble 6193 (c * 1024 + i) then (bif Nat.ble 6194 (c * 1024 + i) then (bif Nat.beq (c * 1024 + i) 6194 then 265 else 0) else (bif Nat.beq (c * 1024 + i) 6193 then 246 else 0)) else (bif Nat.ble 6189 (c * 1024 + i) then (bif Nat.beq (c * 1024 + i) 6189 then 190 else 0) else (bif Nat.beq (c * 1024 + i) 6188 then 186 else 0))) else (bif Nat.ble 6184 (c * 1024 + i) then (bif Nat.ble 6185 (c * 1024 + i) then (bif Nat.beq (c * 1024 + i) 6185 then 182 else 0) else (bif Nat.beq (c * 1024 + i) 6184 then 178 else 0)) else (bif Nat.ble 6181 (c * 1024 + i) then (bif Nat.beq (c * 1024 + i) 6181 then 170 else 0) else (bif Nat.beq (c * 1024 + i) 6180 then 166 else 0)))))) else (bif Nat.ble 5257 (c * 1024 + i) then (bif Nat.ble 6161 (c * 1024 + i) then (bif Nat.ble 6171 (c * 1024 + i) then (bif Nat.ble 6175 (c * 1024 + i) then (bif Nat.ble 6176 (c * 1024 + i) then (bif Nat.beq (c * 1024 + i) 6176 then 160 else 0) else (bif Nat.beq (c * 1024 + i) 6175 then 156 else 0)) else (bif Nat.ble 6172 (c * 1024 + i) then (bif Nat.beq (c * 1024 + i) 6172 then 150 else 0) else (bif Nat.beq (c * 1024 + i) 6171 then 146 else 0))) else (bif Nat.ble 6166 (c * 1024 + i) then (bif Nat.ble 6167 (c * 1024 + i) then (bif Nat.beq (c * 1024 + i) 6167 then 140 else 0) else (bif Nat.beq (c * 1024 + i) 6166 then 132 else 0)) else (bif Nat.ble 6162 (c * 1024 + i) then (bif Nat.beq (c * 1024 + i) 6162 then 123 else 0) else (bif Nat.beq (c * 1024 + i) 6161 then 110 else 0)))) else (bif Nat.ble 5274 (c * 1024 + i) then (bif Nat.ble 5280 (c * 1024 + i) then (bif Nat.ble 6157 (c * 1024 + i) then (bif Nat.beq (c * 1024 + i) 6157 then 82 else 0) else (bif Nat.beq (c * 1024 + i) 5280 then 550 else 0)) else (bif Nat.ble 5277 (c * 1024 + i) then (bif Nat.beq (c * 1024 + i) 5277 then 546 else 0) else (bif Nat.beq (c * 1024 + i) 5274 then 542 else 0))) else (bif Nat.ble 5264 (c * 1024 + i) then (bif Nat.ble 5267 (c * 1024 + i) then (bif Nat.beq (c * 1024 + i) 5267 then 407 else 0) else (bif Nat.beq (c * 1024 + i) 5264 then 395 else 0)) else (bif Nat.ble 5261 (c * 1024 + i) then (bif Nat.beq (c * 1024 + i) 5261 then 399 else 0) else (bif Nat.beq (c * 1024 + i) 5257 then 426 else 0))))) else (bif Nat.ble 5220 (c * 1024 + i) then (bif Nat.ble 5233 (c * 1024 + i) then (bif Nat.ble 5249 (c * 1024 + i) then (bif Nat.ble 5253 (c * 1024 + i) then (bif Nat.beq (c * 1024 + i) 5253 then 413 else 0) else (bif Nat.beq (c * 1024 + i) 5249 then 422 else 0)) else (bif Nat.ble 5239 (c * 1024 + i) then (bif Nat.beq (c * 1024 + i) 5239 then 418 else 0) else (bif Nat.beq (c * 1024 + i) 5233 then 403 else 0))) else (bif Nat.ble 5227 (c * 1024 + i) then (bif Nat.ble 5230 (c * 1024 + i) then (bif Nat.beq (c * 1024 + i) 5230 then 314 else 0) else (bif Nat.beq (c * 1024 + i) 5227 then 322 else 0)) else (bif Nat.ble 5224 (c * 1024 + i) then (bif Nat.beq (c * 1024 + i) 5224 then 318 else 0) else (bif Nat.beq (c * 1024 + i) 5220 then 326 else 0)))) else (bif Nat.ble 5204 (c * 1024 + i) then (bif Nat.ble 5210 (c * 1024 + i) then (bif Nat.ble 5213 (c * 1024 + i) then (bif Nat.beq (c * 1024 + i) 5213 then 250 else 0) else (bif Nat.beq (c * 1024 + i) 5210 then 254 else 0)) else (bif Nat.ble 5207 (c * 1024 + i) then (bif Nat.beq (c * 1024 + i) 5207 then 261 else 0) else (bif Nat.beq (c * 1024 + i) 5204 then 258 else 0))) else (bif Nat.ble 5190 (c * 1024 + i) then (bif Nat.ble 5200 (c * 1024 + i) then (bif Nat.beq (c * 1024 + i) 5200 then 136 else 0) else (bif Nat.beq (c * 1024 + i) 5190 then 117 else 0)) else (bif Nat.ble 5186 (c * 1024 + i) then (bif Nat.beq (c * 1024 + i) 5186 then 120 else 0) else (bif Nat.beq (c * 1024 + i) 4317 then 387 else 0))))))) else (bif Nat.ble 4160 (c * 1024 + i) then (bif Nat.ble 4244 (c * 1024 + i) then (bif Nat.ble 4282 (c * 1024 + i) then (bif Nat.ble 4296 (c * 1024 + i) then (bif Nat.ble 4304 (c * 1024 + i) then (bif Nat.ble 4308 (c * 1024 + i) then (bif Nat.ble 4314 (c * 1024 + i) then (bif Nat.beq (c * 1024 + i) 4314 then 378 else 0) else (bif Nat.beq (c * 1024 + i) 4308 then 372 else 0)) else (bif Nat.beq (c * 1024 + i) 4304 then 375 else 0)) else (bif Nat.ble 4300 (c * 1024 + i) then (bif Nat.beq (c * 1024 + i) 4300 then 537 else 0) else (bif Nat.beq (c * 1024 + i) 4296 then 534 else 0))) else (bif Nat.ble 4289 (c * 1024 + i) then (bif Nat.ble 4293 (c * 1024 + i) then (bif Nat.beq (c * 1024 + i) 4293 then 533 else 0) else (bif Nat.beq (c * 1024 + i) 4289 then 384 else 0)) else (bif Nat.ble 4286 (c * 1024 + i) then (bif Nat.beq (c * 1024 + i) 4286 then 381 else 0) else (bif Nat.beq (c * 1024 + i) 4282 then 368 else 0)))) else (bif Nat.ble 4268 (c * 1024 + i) then (bif Nat.ble 4274 (c * 1024 + i) then (bif Nat.ble 4278 (c * 1024 + i) then (bif Nat.beq (c * 1024 + i) 4278 then 367 else 0) else (bif Nat.beq (c * 1024 + i) 4274 then 350 else 0)) else (bif Nat.ble 4271 (c * 1024 + i) then (bif Nat.beq (c * 1024 + i) 4271 then 338 else 0) else (bif Nat.beq (c * 1024 + i) 4268 then 300 else 0))) else (bif Nat.ble 4261 (c * 1024 + i) then (bif Nat.ble 4265 (c * 1024 + i) then (bif Nat.beq (c * 1024 + i) 4265 then 558 else 0) else (bif Nat.beq (c * 1024 + i) 4261 then 530 else 0)) else (bif Nat.ble 4248 (c * 1024 + i) then (bif Nat.beq (c * 1024 + i) 4248 then 363 else 0) else (bif Nat.beq (c * 1024 + i) 4244 then 487 else 0))))) else (bif Nat.ble 4210 (c * 1024 + i) then (bif Nat.ble 4223 (c * 1024 + i) then (bif Nat.ble 4236 (c * 1024 + i) then (bif Nat.ble 4240 (c * 1024 + i) then (bif Nat.beq (c * 1024 + i) 4240 then 469 else 0) else (bif Nat.beq (c * 1024 + i) 4236 then 342 else 0)) else (bif Nat.ble 4230 (c * 1024 + i) then (bif Nat.beq (c * 1024 + i) 4230 then 456 else 0) else (bif Nat.beq (c * 1024 + i) 4223 then 443 else 0))) else (bif Nat.ble 4216 (c * 1024 + i) then (bif Nat.ble 4219 (c * 1024 + i) then (bif Nat.beq (c * 1024 + i) 4219 then 434 else 0) else (bif Nat.beq (c * 1024 + i) 4216 then 362 else 0)) else (bif Nat.ble 4213 (c * 1024 + i) then (bif Nat.beq (c * 1024 + i) 4213 then 358 else 0) else (bif Nat.beq (c * 1024 + i) 4210 then 334 else 0)))) else (bif Nat.ble 4194 (c * 1024 + i) then (bif Nat.ble 4201 (c * 1024 + i) then (bif Nat.ble 4205 (c * 1024 + i) then (bif Nat.beq (c * 1024 + i) 4205 then 308 else 0) else (bif Nat.beq (c * 1024 + i) 4201 then 295 else 0)) else (bif Nat.ble 4197 (c * 1024 + i) then (bif Nat.beq (c * 1024 + i) 4197 then 283 else 0) else (bif Nat.beq (c * 1024 + i) 4194 then 269 else 0))) else (bif Nat.ble 4184 (c * 1024 + i) then (bif Nat.ble 4190 (c * 1024 + i) then (bif Nat.beq (c * 1024 + i) 4190 then 194 else 0) else (bif Nat.beq (c * 1024 + i) 4184 then 175 else 0)) else (bif Nat.ble 4164 (c * 1024 + i) then (bif Nat.beq (c * 1024 + i) 4164 then 145 else 0) else (bif Nat.beq (c * 1024 + i) 4160 then 128 else 0)))))) else (bif Nat.ble 1106 (c * 1024 + i) then (bif Nat.ble 3126 (c * 1024 + i) then (bif Nat.ble 4137 (c * 1024 + i) then (bif Nat.ble 4153 (c * 1024 + i) then (bif Nat.ble 4157 (c * 1024 + i) then (bif Nat.beq (c * 1024 + i) 4157 then 127 else 0) else (bif Nat.beq (c * 1024 + i) 4153 then 109 else 0)) else (bif Nat.ble 4149 (c * 1024 + i) then (bif Nat.beq (c * 1024 + i) 4149 then 96 else 0) else (bif Nat.beq (c * 1024 + i) 4137 then 93 else 0))) else (bif Nat.ble 3135 (c * 1024 + i) then (bif Nat.ble 4133 (c * 1024 + i) then (bif Nat.beq (c * 1024 + i) 4133 then 88 else 0) else (bif Nat.beq (c * 1024 + i) 3135 then 438 else 0)) else (bif Nat.ble 3131 (c * 1024 + i) then (bif Nat.beq (c * 1024 + i) 3131 then 0 else 0) else (bif Nat.beq (c * 1024 + i) 3126 then 442 else 0)))) else (bif Nat.ble 2083 (c * 1024 + i) then (bif Nat.ble 3118 (c * 1024 + i) then (bif Nat.ble 3122 (c * 1024 + i) then (bif Nat.beq (c * 1024 + i) 3122 then 0 else 0) else (bif Nat.beq (c * 1024 + i) 3118 then 346 else 0)) else (bif Nat.ble 3112 (c * 1024 + i) then (bif Nat.beq (c * 1024 + i) 3112 then 291 else 0) else (bif Nat.beq (c * 1024 + i) 2083 then 0 else 0))) else (bif Nat.ble 1120 (c * 1024 + i) then (bif Nat.ble 2079 (c * 1024 + i) then (bif Nat.beq (c * 1024 + i) 2079 then 0 else 0) else (bif Nat.beq (c * 1024 + i) 1120 then 233 else 0)) else (bif Nat.ble 1110 (c * 1024 + i) then (bif Nat.beq (c * 1024 + i) 1110 then 218 else 0) else (bif Nat.beq (c * 1024 + i) 1106 then 214 else 0))))) else (bif Nat.ble 1068 (c * 1024 + i) then (bif Nat.ble 1087 (c * 1024 + i) then (bif Nat.ble 1096 (c * 1024 + i) then (bif Nat.ble 1100 (c * 1024 + i) then (bif Nat.beq (c * 1024 + i) 1100 then 208 else 0) else (bif Nat.beq (c * 1024 + i) 1096 then 0 else 0)) else (bif Nat.ble 1090 (c * 1024 + i) then (bif Nat.beq (c * 1024 + i) 1090 then 203 else 0) else (bif Nat.beq (c * 1024 + i) 1087 then 279 else 0))) else (bif Nat.ble 1075 (c * 1024 + i) then (bif Nat.ble 1079 (c * 1024 + i) then (bif Nat.beq (c * 1024 + i) 1079 then 304 else 0) else (bif Nat.beq (c * 1024 + i) 1075 then 0 else 0)) else (bif Nat.ble 1072 (c * 1024 + i) then (bif Nat.beq (c * 1024 + i) 1072 then 273 else 0) else (bif Nat.beq (c * 1024 + i) 1068 then 0 else 0)))) else (bif Nat.ble 1052 (c * 1024 + i) then (bif Nat.ble 1060 (c * 1024 + i) then (bif Nat.ble 1064 (c * 1024 + i) then (bif Nat.beq (c * 1024 + i) 1064 then 240 else 0) else (bif Nat.beq (c * 1024 + i) 1060 then 226 else 0)) else (bif Nat.ble 1056 (c * 1024 + i) then (bif Nat.beq (c * 1024 + i) 1056 then 222 else 0) else (bif Nat.beq (c * 1024 + i) 1052 then 198 else 0))) else (bif Nat.ble 28 (c * 1024 + i) then (bif Nat.ble 32 (c * 1024 + i) then (bif Nat.beq (c * 1024 + i) 32 then 447 else 0) else (bif Nat.beq (c * 1024 + i) 28 then 105 else 0)) else (bif Nat.ble 24 (c * 1024 + i) then (bif Nat.beq (c * 1024 + i) 24 then 101 else 0) else (bif Nat.beq (c * 1024 + i) 16 then 0 else 0)))))))
def q_nw : List (String × Nat × MethodName × String) := [(RX0, 16, yX4_isWithin, "QuestionLadder"), (RX1, 51, yX4_isWithin, "QuestionLadder"), (RX1, 44, yX4_asNumber, "QuestionLadder"), (RX1, 72, yX4_isIn, "QuestionLadder"), (RX3, 50, yX4_isWithin, "QuestionLadder"), (RX2, 31, yX4_likeliestStep, "QuestionLadder"), (RX2, 35, yX4_sumOf, "QuestionLadder"), (RX3, 59, yX4_factor, "QuestionLadder")]
def q_lc (c i : Nat) : Bool := match q_ml c i with
  | none => true
  | some (mj, nest) => bif Nat.beq mj 200 then q_has (q_mp c i) (.methodLink (q_R c) i Lib.Math.min.name) && !nest else bif Nat.beq mj 201 then q_has (q_mp c i) (.methodLink (q_R c) i arraycopyName) && !nest
    else Nat.blt mj 112 && (bif nest then q_st mj && decide ((q_R c, i, q_nm mj, "QuestionLadder") ∈ q_nw) else q_has (q_mp c i) (.methodLink (q_R c) i (q_nm mj)))
set_option maxRecDepth 100000 in
theorem q_lcs : ((List.range 9).all fun c => (List.range 1024).all fun i => q_lc c i) = true := by decide +kernel
theorem q_mlg {c i : Nat} {x : Nat × Bool} (h : q_ml c i = some x) : q_lc c i = true := by
  have hg : c < 9 ∧ i < 1024 := by
    unfold q_ml at h
    rcases Nat.lt_or_ge c 9 with h1 | h1
    · rcases Nat.lt_or_ge i 1024 with h2 | h2
      · exact ⟨h1, h2⟩
      · rw [show Nat.ble 1024 i = true from Nat.ble_eq.mpr h2, Bool.or_true, cond_true] at h
        cases h
    · rw [show Nat.ble 9 c = true from Nat.ble_eq.mpr h1, Bool.true_or, cond_true] at h
      cases h
  exact List.all_eq_true.mp (List.all_eq_true.mp q_lcs c (List.mem_range.mpr hg.1)) i (List.mem_range.mpr hg.2)
theorem q_wmin1 : Cond.static Lib.Math.min.name ∈ wsL_law := q_mem (i := 204) (by decide +kernel)
theorem q_wmin2 : Cond.initialized "java/lang/Math" ∈ wsL_law := q_mem (i := 205) (by decide +kernel)
theorem q_wmin3 : Cond.code Lib.Math.min.name Lib.Math.min.code 2 (some .int) ∈ wsL_law := q_mem (i := 206) (by decide +kernel)
theorem q_wac1 : Cond.native arraycopyName ∈ wsL_law := q_mem (i := 292) (by decide +kernel)
theorem q_wac2 : Cond.static arraycopyName ∈ wsL_law := q_mem (i := 293) (by decide +kernel)
theorem q_wac3 : Cond.initialized "java/lang/System" ∈ wsL_law := q_mem (i := 294) (by decide +kernel)
def q_kp (c i : Nat) : Nat := bif Nat.ble 5237 (c * 1024 + i) then (bif Nat.ble 7434 (c * 1024 + i) then (bif Nat.ble 7435 (c * 1024 + i) then (bif Nat.beq (c * 1024 + i) 7435 then 239 else 0) else (bif Nat.beq (c * 1024 + i) 7434 then 238 else 0)) else (bif Nat.ble 7433 (c * 1024 + i) then (bif Nat.beq (c * 1024 + i) 7433 then 237 else 0) else (bif Nat.beq (c * 1024 + i) 5237 then 417 else 0))) else (bif Nat.ble 5194 (c * 1024 + i) then (bif Nat.ble 5195 (c * 1024 + i) then (bif Nat.beq (c * 1024 + i) 5195 then 115 else 0) else (bif Nat.beq (c * 1024 + i) 5194 then 114 else 0)) else (bif Nat.beq (c * 1024 + i) 4312 then 371 else 0))
def q_okb (mi pc : Nat) (i : Instr) (ex : Nat) : Bool := decide (decode (q_by mi) pc = .ok (i, q_ln i ex)) && (match i with
  | .istore k => Nat.blt k (q_mx mi) | .istore_n k => Nat.blt k (q_mx mi) | .lstore k => Nat.blt (k + 1) (q_mx mi) | .lstore_n k => Nat.blt (k + 1) (q_mx mi) | .astore k => Nat.blt k (q_mx mi) | .astore_n k => Nat.blt k (q_mx mi) | .iinc k _ => Nat.blt k (q_mx mi)
  | .goto o => decide ((pc : Int) + o = (ex : Int)) | .ifCond _ o => decide ((pc : Int) + o = (ex : Int)) | .if_icmp _ o => decide ((pc : Int) + o = (ex : Int))
  | .tableswitch d lo hi os => decide (0 ≤ (pc : Int) + d) && os.all (fun o => decide (0 ≤ (pc : Int) + o)) && decide (hi - lo < (os.size : Int))
  | .ldc k => (match q_kc (q_oc mi) k with | some v => q_has (q_kp (q_oc mi) k) (.constant (q_R (q_oc mi)) k (Int32.ofNat v)) | none => true)
  | .ldc_w k => (match q_kc (q_oc mi) k with | some v => q_has (q_kp (q_oc mi) k) (.constant (q_R (q_oc mi)) k (Int32.ofNat v)) | none => true)
  | .ldc2_w k => (match q_kc (q_oc mi) k with | some v => q_has (q_kp (q_oc mi) k) (.constantLong (q_R (q_oc mi)) k (Int64.ofNat v)) | none => true)
  | _ => true)
def q_okc (mi pc : Nat) : Bool := match q_cd mi pc with
  | none => true
  | some (i, ex) => q_okb mi pc i ex
theorem q_app {a b : Nat} {f : Nat → Bool} (h1 : ((List.range a).all f) = true) (h2 : ((List.range b).all fun k => f (a + k)) = true) : ((List.range (a + b)).all f) = true := by
  rw [List.range_add, List.all_append, h1, List.all_map]
  exact h2
theorem q_ofB {mi b : Nat} (h : ((List.range b).all (q_okc mi)) = true) (h2 : ∀ pc, Nat.ble b pc = true → q_cd mi pc = none) (pc : Nat) : q_okc mi pc = true := by
  rcases Nat.lt_or_ge pc b with h1 | h1
  · exact List.all_eq_true.mp h pc (List.mem_range.mpr h1)
  · simp only [q_okc, h2 pc (Nat.ble_eq.mpr h1)]
