theorem q_o0_0 : ((List.range 60).all (q_okc 0)) = true := by decide +kernel
theorem q_o0_1 : ((List.range 3).all fun k => q_okc 0 (60 + k)) = true := by decide +kernel
theorem q_o0 : ∀ pc, q_okc 0 pc = true := q_ofB (b := 63) (q_app (a := 60) (b := 3) (q_o0_0) q_o0_1) (fun pc h => by show q_t0 pc = none; rw [q_t0, h]; rfl)
theorem q_o1_0 : ((List.range 45).all (q_okc 1)) = true := by decide +kernel
theorem q_o1 : ∀ pc, q_okc 1 pc = true := q_ofB (b := 45) (q_o1_0) (fun pc h => by show q_t1 pc = none; rw [q_t1, h]; rfl)
theorem q_o2_0 : ((List.range 24).all (q_okc 2)) = true := by decide +kernel
theorem q_o2 : ∀ pc, q_okc 2 pc = true := q_ofB (b := 24) (q_o2_0) (fun pc h => by show q_t2 pc = none; rw [q_t2, h]; rfl)
theorem q_o3_0 : ((List.range 51).all (q_okc 3)) = true := by decide +kernel
theorem q_o3 : ∀ pc, q_okc 3 pc = true := q_ofB (b := 51) (q_o3_0) (fun pc h => by show q_t3 pc = none; rw [q_t3, h]; rfl)
theorem q_o4_0 : ((List.range 29).all (q_okc 4)) = true := by decide +kernel
theorem q_o4 : ∀ pc, q_okc 4 pc = true := q_ofB (b := 29) (q_o4_0) (fun pc h => by show q_t4 pc = none; rw [q_t4, h]; rfl)
theorem q_o5_0 : ((List.range 28).all (q_okc 5)) = true := by decide +kernel
theorem q_o5 : ∀ pc, q_okc 5 pc = true := q_ofB (b := 28) (q_o5_0) (fun pc h => by show q_t5 pc = none; rw [q_t5, h]; rfl)
theorem q_o6_0 : ((List.range 15).all (q_okc 6)) = true := by decide +kernel
theorem q_o6 : ∀ pc, q_okc 6 pc = true := q_ofB (b := 15) (q_o6_0) (fun pc h => by show q_t6 pc = none; rw [q_t6, h]; rfl)
theorem q_o7_0 : ((List.range 19).all (q_okc 7)) = true := by decide +kernel
theorem q_o7 : ∀ pc, q_okc 7 pc = true := q_ofB (b := 19) (q_o7_0) (fun pc h => by show q_t7 pc = none; rw [q_t7, h]; rfl)
theorem q_o8_0 : ((List.range 60).all (q_okc 8)) = true := by decide +kernel
theorem q_o8_1 : ((List.range 11).all fun k => q_okc 8 (60 + k)) = true := by decide +kernel
theorem q_o8 : ∀ pc, q_okc 8 pc = true := q_ofB (b := 71) (q_app (a := 60) (b := 11) (q_o8_0) q_o8_1) (fun pc h => by show q_t8 pc = none; rw [q_t8, h]; rfl)
theorem q_o9_0 : ((List.range 46).all (q_okc 9)) = true := by decide +kernel
theorem q_o9 : ∀ pc, q_okc 9 pc = true := q_ofB (b := 46) (q_o9_0) (fun pc h => by show q_t9 pc = none; rw [q_t9, h]; rfl)
theorem q_o10_0 : ((List.range 29).all (q_okc 10)) = true := by decide +kernel
theorem q_o10 : ∀ pc, q_okc 10 pc = true := q_ofB (b := 29) (q_o10_0) (fun pc h => by show q_t10 pc = none; rw [q_t10, h]; rfl)
theorem q_o11_0 : ((List.range 60).all (q_okc 11)) = true := by decide +kernel
theorem q_o11_1 : ((List.range 16).all fun k => q_okc 11 (60 + k)) = true := by decide +kernel
theorem q_o11 : ∀ pc, q_okc 11 pc = true := q_ofB (b := 76) (q_app (a := 60) (b := 16) (q_o11_0) q_o11_1) (fun pc h => by show q_t11 pc = none; rw [q_t11, h]; rfl)
theorem q_o12_0 : ((List.range 13).all (q_okc 12)) = true := by decide +kernel
theorem q_o12 : ∀ pc, q_okc 12 pc = true := q_ofB (b := 13) (q_o12_0) (fun pc h => by show q_t12 pc = none; rw [q_t12, h]; rfl)
theorem q_o13_0 : ((List.range 29).all (q_okc 13)) = true := by decide +kernel
theorem q_o13 : ∀ pc, q_okc 13 pc = true := q_ofB (b := 29) (q_o13_0) (fun pc h => by show q_t13 pc = none; rw [q_t13, h]; rfl)
theorem q_o14_0 : ((List.range 40).all (q_okc 14)) = true := by decide +kernel
theorem q_o14 : ∀ pc, q_okc 14 pc = true := q_ofB (b := 40) (q_o14_0) (fun pc h => by show q_t14 pc = none; rw [q_t14, h]; rfl)
theorem q_o15_0 : ((List.range 46).all (q_okc 15)) = true := by decide +kernel
theorem q_o15 : ∀ pc, q_okc 15 pc = true := q_ofB (b := 46) (q_o15_0) (fun pc h => by show q_t15 pc = none; rw [q_t15, h]; rfl)
theorem q_o16_0 : ((List.range 58).all (q_okc 16)) = true := by decide +kernel
theorem q_o16 : ∀ pc, q_okc 16 pc = true := q_ofB (b := 58) (q_o16_0) (fun pc h => by show q_t16 pc = none; rw [q_t16, h]; rfl)
theorem q_o17_0 : ((List.range 60).all (q_okc 17)) = true := by decide +kernel
theorem q_o17_1 : ((List.range 57).all fun k => q_okc 17 (60 + k)) = true := by decide +kernel
theorem q_o17 : ∀ pc, q_okc 17 pc = true := q_ofB (b := 117) (q_app (a := 60) (b := 57) (q_o17_0) q_o17_1) (fun pc h => by show q_t17 pc = none; rw [q_t17, h]; rfl)
theorem q_o18_0 : ((List.range 60).all (q_okc 18)) = true := by decide +kernel
theorem q_o18_1 : ((List.range 3).all fun k => q_okc 18 (60 + k)) = true := by decide +kernel
theorem q_o18 : ∀ pc, q_okc 18 pc = true := q_ofB (b := 63) (q_app (a := 60) (b := 3) (q_o18_0) q_o18_1) (fun pc h => by show q_t18 pc = none; rw [q_t18, h]; rfl)
theorem q_o19_0 : ((List.range 60).all (q_okc 19)) = true := by decide +kernel
theorem q_o19_1 : ((List.range 21).all fun k => q_okc 19 (60 + k)) = true := by decide +kernel
theorem q_o19 : ∀ pc, q_okc 19 pc = true := q_ofB (b := 81) (q_app (a := 60) (b := 21) (q_o19_0) q_o19_1) (fun pc h => by show q_t19 pc = none; rw [q_t19, h]; rfl)
theorem q_o20_0 : ((List.range 42).all (q_okc 20)) = true := by decide +kernel
theorem q_o20 : ∀ pc, q_okc 20 pc = true := q_ofB (b := 42) (q_o20_0) (fun pc h => by show q_t20 pc = none; rw [q_t20, h]; rfl)
theorem q_o21_0 : ((List.range 31).all (q_okc 21)) = true := by decide +kernel
theorem q_o21 : ∀ pc, q_okc 21 pc = true := q_ofB (b := 31) (q_o21_0) (fun pc h => by show q_t21 pc = none; rw [q_t21, h]; rfl)
theorem q_o22_0 : ((List.range 33).all (q_okc 22)) = true := by decide +kernel
theorem q_o22 : ∀ pc, q_okc 22 pc = true := q_ofB (b := 33) (q_o22_0) (fun pc h => by show q_t22 pc = none; rw [q_t22, h]; rfl)
theorem q_o23_0 : ((List.range 9).all (q_okc 23)) = true := by decide +kernel
theorem q_o23 : ∀ pc, q_okc 23 pc = true := q_ofB (b := 9) (q_o23_0) (fun pc h => by show q_t23 pc = none; rw [q_t23, h]; rfl)
theorem q_o24_0 : ((List.range 21).all (q_okc 24)) = true := by decide +kernel
theorem q_o24 : ∀ pc, q_okc 24 pc = true := q_ofB (b := 21) (q_o24_0) (fun pc h => by show q_t24 pc = none; rw [q_t24, h]; rfl)
theorem q_o25_0 : ((List.range 60).all (q_okc 25)) = true := by decide +kernel
theorem q_o25 : ∀ pc, q_okc 25 pc = true := q_ofB (b := 60) (q_o25_0) (fun pc h => by show q_t25 pc = none; rw [q_t25, h]; rfl)
theorem q_o26_0 : ((List.range 60).all (q_okc 26)) = true := by decide +kernel
theorem q_o26_1 : ((List.range 7).all fun k => q_okc 26 (60 + k)) = true := by decide +kernel
theorem q_o26 : ∀ pc, q_okc 26 pc = true := q_ofB (b := 67) (q_app (a := 60) (b := 7) (q_o26_0) q_o26_1) (fun pc h => by show q_t26 pc = none; rw [q_t26, h]; rfl)
theorem q_o27_0 : ((List.range 58).all (q_okc 27)) = true := by decide +kernel
theorem q_o27 : ∀ pc, q_okc 27 pc = true := q_ofB (b := 58) (q_o27_0) (fun pc h => by show q_t27 pc = none; rw [q_t27, h]; rfl)
theorem q_o28_0 : ((List.range 60).all (q_okc 28)) = true := by decide +kernel
theorem q_o28_1 : ((List.range 60).all fun k => q_okc 28 (60 + k)) = true := by decide +kernel
theorem q_o28_2 : ((List.range 14).all fun k => q_okc 28 (120 + k)) = true := by decide +kernel
theorem q_o28 : ∀ pc, q_okc 28 pc = true := q_ofB (b := 134) (q_app (a := 120) (b := 14) (q_app (a := 60) (b := 60) (q_o28_0) q_o28_1) q_o28_2) (fun pc h => by show q_t28 pc = none; rw [q_t28, h]; rfl)
theorem q_o29_0 : ((List.range 58).all (q_okc 29)) = true := by decide +kernel
theorem q_o29 : ∀ pc, q_okc 29 pc = true := q_ofB (b := 58) (q_o29_0) (fun pc h => by show q_t29 pc = none; rw [q_t29, h]; rfl)
theorem q_o30_0 : ((List.range 43).all (q_okc 30)) = true := by decide +kernel
theorem q_o30 : ∀ pc, q_okc 30 pc = true := q_ofB (b := 43) (q_o30_0) (fun pc h => by show q_t30 pc = none; rw [q_t30, h]; rfl)
theorem q_o31_0 : ((List.range 60).all (q_okc 31)) = true := by decide +kernel
theorem q_o31_1 : ((List.range 20).all fun k => q_okc 31 (60 + k)) = true := by decide +kernel
theorem q_o31 : ∀ pc, q_okc 31 pc = true := q_ofB (b := 80) (q_app (a := 60) (b := 20) (q_o31_0) q_o31_1) (fun pc h => by show q_t31 pc = none; rw [q_t31, h]; rfl)
theorem q_o32_0 : ((List.range 60).all (q_okc 32)) = true := by decide +kernel
theorem q_o32_1 : ((List.range 7).all fun k => q_okc 32 (60 + k)) = true := by decide +kernel
theorem q_o32 : ∀ pc, q_okc 32 pc = true := q_ofB (b := 67) (q_app (a := 60) (b := 7) (q_o32_0) q_o32_1) (fun pc h => by show q_t32 pc = none; rw [q_t32, h]; rfl)
theorem q_o33_0 : ((List.range 53).all (q_okc 33)) = true := by decide +kernel
theorem q_o33 : ∀ pc, q_okc 33 pc = true := q_ofB (b := 53) (q_o33_0) (fun pc h => by show q_t33 pc = none; rw [q_t33, h]; rfl)
theorem q_o34_0 : ((List.range 33).all (q_okc 34)) = true := by decide +kernel
theorem q_o34 : ∀ pc, q_okc 34 pc = true := q_ofB (b := 33) (q_o34_0) (fun pc h => by show q_t34 pc = none; rw [q_t34, h]; rfl)
theorem q_o35_0 : ((List.range 29).all (q_okc 35)) = true := by decide +kernel
theorem q_o35 : ∀ pc, q_okc 35 pc = true := q_ofB (b := 29) (q_o35_0) (fun pc h => by show q_t35 pc = none; rw [q_t35, h]; rfl)
theorem q_o36_0 : ((List.range 57).all (q_okc 36)) = true := by decide +kernel
theorem q_o36 : ∀ pc, q_okc 36 pc = true := q_ofB (b := 57) (q_o36_0) (fun pc h => by show q_t36 pc = none; rw [q_t36, h]; rfl)
theorem q_o37_0 : ((List.range 32).all (q_okc 37)) = true := by decide +kernel
theorem q_o37 : ∀ pc, q_okc 37 pc = true := q_ofB (b := 32) (q_o37_0) (fun pc h => by show q_t37 pc = none; rw [q_t37, h]; rfl)
theorem q_o38_0 : ((List.range 60).all (q_okc 38)) = true := by decide +kernel
theorem q_o38_1 : ((List.range 14).all fun k => q_okc 38 (60 + k)) = true := by decide +kernel
theorem q_o38 : ∀ pc, q_okc 38 pc = true := q_ofB (b := 74) (q_app (a := 60) (b := 14) (q_o38_0) q_o38_1) (fun pc h => by show q_t38 pc = none; rw [q_t38, h]; rfl)
theorem q_o39_0 : ((List.range 46).all (q_okc 39)) = true := by decide +kernel
theorem q_o39 : ∀ pc, q_okc 39 pc = true := q_ofB (b := 46) (q_o39_0) (fun pc h => by show q_t39 pc = none; rw [q_t39, h]; rfl)
theorem q_o40_0 : ((List.range 52).all (q_okc 40)) = true := by decide +kernel
theorem q_o40 : ∀ pc, q_okc 40 pc = true := q_ofB (b := 52) (q_o40_0) (fun pc h => by show q_t40 pc = none; rw [q_t40, h]; rfl)
theorem q_o41_0 : ((List.range 59).all (q_okc 41)) = true := by decide +kernel
theorem q_o41 : ∀ pc, q_okc 41 pc = true := q_ofB (b := 59) (q_o41_0) (fun pc h => by show q_t41 pc = none; rw [q_t41, h]; rfl)
theorem q_o42_0 : ((List.range 38).all (q_okc 42)) = true := by decide +kernel
theorem q_o42 : ∀ pc, q_okc 42 pc = true := q_ofB (b := 38) (q_o42_0) (fun pc h => by show q_t42 pc = none; rw [q_t42, h]; rfl)
theorem q_o43_0 : ((List.range 45).all (q_okc 43)) = true := by decide +kernel
theorem q_o43 : ∀ pc, q_okc 43 pc = true := q_ofB (b := 45) (q_o43_0) (fun pc h => by show q_t43 pc = none; rw [q_t43, h]; rfl)
theorem q_o44_0 : ((List.range 18).all (q_okc 44)) = true := by decide +kernel
theorem q_o44 : ∀ pc, q_okc 44 pc = true := q_ofB (b := 18) (q_o44_0) (fun pc h => by show q_t44 pc = none; rw [q_t44, h]; rfl)
theorem q_o45_0 : ((List.range 32).all (q_okc 45)) = true := by decide +kernel
theorem q_o45 : ∀ pc, q_okc 45 pc = true := q_ofB (b := 32) (q_o45_0) (fun pc h => by show q_t45 pc = none; rw [q_t45, h]; rfl)
theorem q_o46_0 : ((List.range 60).all (q_okc 46)) = true := by decide +kernel
theorem q_o46_1 : ((List.range 16).all fun k => q_okc 46 (60 + k)) = true := by decide +kernel
theorem q_o46 : ∀ pc, q_okc 46 pc = true := q_ofB (b := 76) (q_app (a := 60) (b := 16) (q_o46_0) q_o46_1) (fun pc h => by show q_t46 pc = none; rw [q_t46, h]; rfl)
theorem q_o47_0 : ((List.range 47).all (q_okc 47)) = true := by decide +kernel
theorem q_o47 : ∀ pc, q_okc 47 pc = true := q_ofB (b := 47) (q_o47_0) (fun pc h => by show q_t47 pc = none; rw [q_t47, h]; rfl)
theorem q_o48_0 : ((List.range 60).all (q_okc 48)) = true := by decide +kernel
theorem q_o48_1 : ((List.range 60).all fun k => q_okc 48 (60 + k)) = true := by decide +kernel
theorem q_o48_2 : ((List.range 54).all fun k => q_okc 48 (120 + k)) = true := by decide +kernel
theorem q_o48 : ∀ pc, q_okc 48 pc = true := q_ofB (b := 174) (q_app (a := 120) (b := 54) (q_app (a := 60) (b := 60) (q_o48_0) q_o48_1) q_o48_2) (fun pc h => by show q_t48 pc = none; rw [q_t48, h]; rfl)
