theorem q_o49_0 : ((List.range 15).all (q_okc 49)) = true := by decide +kernel
theorem q_o49 : ∀ pc, q_okc 49 pc = true := q_ofB (b := 15) (q_o49_0) (fun pc h => by show q_t49 pc = none; rw [q_t49, h]; rfl)
theorem q_o50_0 : ((List.range 51).all (q_okc 50)) = true := by decide +kernel
theorem q_o50 : ∀ pc, q_okc 50 pc = true := q_ofB (b := 51) (q_o50_0) (fun pc h => by show q_t50 pc = none; rw [q_t50, h]; rfl)
theorem q_o51_0 : ((List.range 52).all (q_okc 51)) = true := by decide +kernel
theorem q_o51 : ∀ pc, q_okc 51 pc = true := q_ofB (b := 52) (q_o51_0) (fun pc h => by show q_t51 pc = none; rw [q_t51, h]; rfl)
theorem q_o52_0 : ((List.range 56).all (q_okc 52)) = true := by decide +kernel
theorem q_o52 : ∀ pc, q_okc 52 pc = true := q_ofB (b := 56) (q_o52_0) (fun pc h => by show q_t52 pc = none; rw [q_t52, h]; rfl)
theorem q_o53_0 : ((List.range 60).all (q_okc 53)) = true := by decide +kernel
theorem q_o53_1 : ((List.range 29).all fun k => q_okc 53 (60 + k)) = true := by decide +kernel
theorem q_o53 : ∀ pc, q_okc 53 pc = true := q_ofB (b := 89) (q_app (a := 60) (b := 29) (q_o53_0) q_o53_1) (fun pc h => by show q_t53 pc = none; rw [q_t53, h]; rfl)
theorem q_o54_0 : ((List.range 60).all (q_okc 54)) = true := by decide +kernel
theorem q_o54_1 : ((List.range 7).all fun k => q_okc 54 (60 + k)) = true := by decide +kernel
theorem q_o54 : ∀ pc, q_okc 54 pc = true := q_ofB (b := 67) (q_app (a := 60) (b := 7) (q_o54_0) q_o54_1) (fun pc h => by show q_t54 pc = none; rw [q_t54, h]; rfl)
theorem q_o55_0 : ((List.range 16).all (q_okc 55)) = true := by decide +kernel
theorem q_o55 : ∀ pc, q_okc 55 pc = true := q_ofB (b := 16) (q_o55_0) (fun pc h => by show q_t55 pc = none; rw [q_t55, h]; rfl)
theorem q_o56_0 : ((List.range 7).all (q_okc 56)) = true := by decide +kernel
theorem q_o56 : ∀ pc, q_okc 56 pc = true := q_ofB (b := 7) (q_o56_0) (fun pc h => by show q_t56 pc = none; rw [q_t56, h]; rfl)
theorem q_o57_0 : ((List.range 10).all (q_okc 57)) = true := by decide +kernel
theorem q_o57 : ∀ pc, q_okc 57 pc = true := q_ofB (b := 10) (q_o57_0) (fun pc h => by show q_t57 pc = none; rw [q_t57, h]; rfl)
theorem q_o58_0 : ((List.range 14).all (q_okc 58)) = true := by decide +kernel
theorem q_o58 : ∀ pc, q_okc 58 pc = true := q_ofB (b := 14) (q_o58_0) (fun pc h => by show q_t58 pc = none; rw [q_t58, h]; rfl)
theorem q_o59_0 : ((List.range 35).all (q_okc 59)) = true := by decide +kernel
theorem q_o59 : ∀ pc, q_okc 59 pc = true := q_ofB (b := 35) (q_o59_0) (fun pc h => by show q_t59 pc = none; rw [q_t59, h]; rfl)
theorem q_o60_0 : ((List.range 29).all (q_okc 60)) = true := by decide +kernel
theorem q_o60 : ∀ pc, q_okc 60 pc = true := q_ofB (b := 29) (q_o60_0) (fun pc h => by show q_t60 pc = none; rw [q_t60, h]; rfl)
theorem q_o61_0 : ((List.range 27).all (q_okc 61)) = true := by decide +kernel
theorem q_o61 : ∀ pc, q_okc 61 pc = true := q_ofB (b := 27) (q_o61_0) (fun pc h => by show q_t61 pc = none; rw [q_t61, h]; rfl)
theorem q_o62_0 : ((List.range 37).all (q_okc 62)) = true := by decide +kernel
theorem q_o62 : ∀ pc, q_okc 62 pc = true := q_ofB (b := 37) (q_o62_0) (fun pc h => by show q_t62 pc = none; rw [q_t62, h]; rfl)
theorem q_o63_0 : ((List.range 44).all (q_okc 63)) = true := by decide +kernel
theorem q_o63 : ∀ pc, q_okc 63 pc = true := q_ofB (b := 44) (q_o63_0) (fun pc h => by show q_t63 pc = none; rw [q_t63, h]; rfl)
theorem q_o64_0 : ((List.range 43).all (q_okc 64)) = true := by decide +kernel
theorem q_o64 : ∀ pc, q_okc 64 pc = true := q_ofB (b := 43) (q_o64_0) (fun pc h => by show q_t64 pc = none; rw [q_t64, h]; rfl)
theorem q_o65_0 : ((List.range 25).all (q_okc 65)) = true := by decide +kernel
theorem q_o65 : ∀ pc, q_okc 65 pc = true := q_ofB (b := 25) (q_o65_0) (fun pc h => by show q_t65 pc = none; rw [q_t65, h]; rfl)
theorem q_o66_0 : ((List.range 60).all (q_okc 66)) = true := by decide +kernel
theorem q_o66_1 : ((List.range 60).all fun k => q_okc 66 (60 + k)) = true := by decide +kernel
theorem q_o66_2 : ((List.range 6).all fun k => q_okc 66 (120 + k)) = true := by decide +kernel
theorem q_o66 : ∀ pc, q_okc 66 pc = true := q_ofB (b := 126) (q_app (a := 120) (b := 6) (q_app (a := 60) (b := 60) (q_o66_0) q_o66_1) q_o66_2) (fun pc h => by show q_t66 pc = none; rw [q_t66, h]; rfl)
theorem q_o67_0 : ((List.range 16).all (q_okc 67)) = true := by decide +kernel
theorem q_o67 : ∀ pc, q_okc 67 pc = true := q_ofB (b := 16) (q_o67_0) (fun pc h => by show q_t67 pc = none; rw [q_t67, h]; rfl)
theorem q_o68_0 : ((List.range 12).all (q_okc 68)) = true := by decide +kernel
theorem q_o68 : ∀ pc, q_okc 68 pc = true := q_ofB (b := 12) (q_o68_0) (fun pc h => by show q_t68 pc = none; rw [q_t68, h]; rfl)
theorem q_o69_0 : ((List.range 52).all (q_okc 69)) = true := by decide +kernel
theorem q_o69 : ∀ pc, q_okc 69 pc = true := q_ofB (b := 52) (q_o69_0) (fun pc h => by show q_t69 pc = none; rw [q_t69, h]; rfl)
theorem q_o70_0 : ((List.range 60).all (q_okc 70)) = true := by decide +kernel
theorem q_o70_1 : ((List.range 60).all fun k => q_okc 70 (60 + k)) = true := by decide +kernel
theorem q_o70_2 : ((List.range 60).all fun k => q_okc 70 (120 + k)) = true := by decide +kernel
theorem q_o70_3 : ((List.range 58).all fun k => q_okc 70 (180 + k)) = true := by decide +kernel
theorem q_o70 : ∀ pc, q_okc 70 pc = true := q_ofB (b := 238) (q_app (a := 180) (b := 58) (q_app (a := 120) (b := 60) (q_app (a := 60) (b := 60) (q_o70_0) q_o70_1) q_o70_2) q_o70_3) (fun pc h => by show q_t70 pc = none; rw [q_t70, h]; rfl)
theorem q_o71_0 : ((List.range 60).all (q_okc 71)) = true := by decide +kernel
theorem q_o71_1 : ((List.range 60).all fun k => q_okc 71 (60 + k)) = true := by decide +kernel
theorem q_o71_2 : ((List.range 43).all fun k => q_okc 71 (120 + k)) = true := by decide +kernel
theorem q_o71 : ∀ pc, q_okc 71 pc = true := q_ofB (b := 163) (q_app (a := 120) (b := 43) (q_app (a := 60) (b := 60) (q_o71_0) q_o71_1) q_o71_2) (fun pc h => by show q_t71 pc = none; rw [q_t71, h]; rfl)
theorem q_o72_0 : ((List.range 34).all (q_okc 72)) = true := by decide +kernel
theorem q_o72 : ∀ pc, q_okc 72 pc = true := q_ofB (b := 34) (q_o72_0) (fun pc h => by show q_t72 pc = none; rw [q_t72, h]; rfl)
theorem q_o73_0 : ((List.range 60).all (q_okc 73)) = true := by decide +kernel
theorem q_o73_1 : ((List.range 6).all fun k => q_okc 73 (60 + k)) = true := by decide +kernel
theorem q_o73 : ∀ pc, q_okc 73 pc = true := q_ofB (b := 66) (q_app (a := 60) (b := 6) (q_o73_0) q_o73_1) (fun pc h => by show q_t73 pc = none; rw [q_t73, h]; rfl)
theorem q_o74_0 : ((List.range 56).all (q_okc 74)) = true := by decide +kernel
theorem q_o74 : ∀ pc, q_okc 74 pc = true := q_ofB (b := 56) (q_o74_0) (fun pc h => by show q_t74 pc = none; rw [q_t74, h]; rfl)
theorem q_o75_0 : ((List.range 46).all (q_okc 75)) = true := by decide +kernel
theorem q_o75 : ∀ pc, q_okc 75 pc = true := q_ofB (b := 46) (q_o75_0) (fun pc h => by show q_t75 pc = none; rw [q_t75, h]; rfl)
theorem q_o76_0 : ((List.range 60).all (q_okc 76)) = true := by decide +kernel
theorem q_o76_1 : ((List.range 45).all fun k => q_okc 76 (60 + k)) = true := by decide +kernel
theorem q_o76 : ∀ pc, q_okc 76 pc = true := q_ofB (b := 105) (q_app (a := 60) (b := 45) (q_o76_0) q_o76_1) (fun pc h => by show q_t76 pc = none; rw [q_t76, h]; rfl)
theorem q_o77_0 : ((List.range 15).all (q_okc 77)) = true := by decide +kernel
theorem q_o77 : ∀ pc, q_okc 77 pc = true := q_ofB (b := 15) (q_o77_0) (fun pc h => by show q_t77 pc = none; rw [q_t77, h]; rfl)
theorem q_o78_0 : ((List.range 60).all (q_okc 78)) = true := by decide +kernel
theorem q_o78_1 : ((List.range 60).all fun k => q_okc 78 (60 + k)) = true := by decide +kernel
theorem q_o78_2 : ((List.range 19).all fun k => q_okc 78 (120 + k)) = true := by decide +kernel
theorem q_o78 : ∀ pc, q_okc 78 pc = true := q_ofB (b := 139) (q_app (a := 120) (b := 19) (q_app (a := 60) (b := 60) (q_o78_0) q_o78_1) q_o78_2) (fun pc h => by show q_t78 pc = none; rw [q_t78, h]; rfl)
theorem q_o79_0 : ((List.range 60).all (q_okc 79)) = true := by decide +kernel
theorem q_o79_1 : ((List.range 60).all fun k => q_okc 79 (60 + k)) = true := by decide +kernel
theorem q_o79_2 : ((List.range 60).all fun k => q_okc 79 (120 + k)) = true := by decide +kernel
theorem q_o79_3 : ((List.range 36).all fun k => q_okc 79 (180 + k)) = true := by decide +kernel
theorem q_o79 : ∀ pc, q_okc 79 pc = true := q_ofB (b := 216) (q_app (a := 180) (b := 36) (q_app (a := 120) (b := 60) (q_app (a := 60) (b := 60) (q_o79_0) q_o79_1) q_o79_2) q_o79_3) (fun pc h => by show q_t79 pc = none; rw [q_t79, h]; rfl)
theorem q_o80_0 : ((List.range 60).all (q_okc 80)) = true := by decide +kernel
theorem q_o80_1 : ((List.range 60).all fun k => q_okc 80 (60 + k)) = true := by decide +kernel
theorem q_o80 : ∀ pc, q_okc 80 pc = true := q_ofB (b := 120) (q_app (a := 60) (b := 60) (q_o80_0) q_o80_1) (fun pc h => by show q_t80 pc = none; rw [q_t80, h]; rfl)
theorem q_o81_0 : ((List.range 17).all (q_okc 81)) = true := by decide +kernel
theorem q_o81 : ∀ pc, q_okc 81 pc = true := q_ofB (b := 17) (q_o81_0) (fun pc h => by show q_t81 pc = none; rw [q_t81, h]; rfl)
theorem q_o82_0 : ((List.range 31).all (q_okc 82)) = true := by decide +kernel
theorem q_o82 : ∀ pc, q_okc 82 pc = true := q_ofB (b := 31) (q_o82_0) (fun pc h => by show q_t82 pc = none; rw [q_t82, h]; rfl)
theorem q_o83_0 : ((List.range 60).all (q_okc 83)) = true := by decide +kernel
theorem q_o83_1 : ((List.range 27).all fun k => q_okc 83 (60 + k)) = true := by decide +kernel
theorem q_o83 : ∀ pc, q_okc 83 pc = true := q_ofB (b := 87) (q_app (a := 60) (b := 27) (q_o83_0) q_o83_1) (fun pc h => by show q_t83 pc = none; rw [q_t83, h]; rfl)
theorem q_o84_0 : ((List.range 44).all (q_okc 84)) = true := by decide +kernel
theorem q_o84 : ∀ pc, q_okc 84 pc = true := q_ofB (b := 44) (q_o84_0) (fun pc h => by show q_t84 pc = none; rw [q_t84, h]; rfl)
theorem q_o85_0 : ((List.range 42).all (q_okc 85)) = true := by decide +kernel
theorem q_o85 : ∀ pc, q_okc 85 pc = true := q_ofB (b := 42) (q_o85_0) (fun pc h => by show q_t85 pc = none; rw [q_t85, h]; rfl)
theorem q_o86_0 : ((List.range 58).all (q_okc 86)) = true := by decide +kernel
theorem q_o86 : ∀ pc, q_okc 86 pc = true := q_ofB (b := 58) (q_o86_0) (fun pc h => by show q_t86 pc = none; rw [q_t86, h]; rfl)
theorem q_o87_0 : ((List.range 36).all (q_okc 87)) = true := by decide +kernel
theorem q_o87 : ∀ pc, q_okc 87 pc = true := q_ofB (b := 36) (q_o87_0) (fun pc h => by show q_t87 pc = none; rw [q_t87, h]; rfl)
theorem q_o88_0 : ((List.range 50).all (q_okc 88)) = true := by decide +kernel
theorem q_o88 : ∀ pc, q_okc 88 pc = true := q_ofB (b := 50) (q_o88_0) (fun pc h => by show q_t88 pc = none; rw [q_t88, h]; rfl)
theorem q_o89_0 : ((List.range 60).all (q_okc 89)) = true := by decide +kernel
theorem q_o89_1 : ((List.range 16).all fun k => q_okc 89 (60 + k)) = true := by decide +kernel
theorem q_o89 : ∀ pc, q_okc 89 pc = true := q_ofB (b := 76) (q_app (a := 60) (b := 16) (q_o89_0) q_o89_1) (fun pc h => by show q_t89 pc = none; rw [q_t89, h]; rfl)
theorem q_o90_0 : ((List.range 60).all (q_okc 90)) = true := by decide +kernel
theorem q_o90_1 : ((List.range 24).all fun k => q_okc 90 (60 + k)) = true := by decide +kernel
theorem q_o90 : ∀ pc, q_okc 90 pc = true := q_ofB (b := 84) (q_app (a := 60) (b := 24) (q_o90_0) q_o90_1) (fun pc h => by show q_t90 pc = none; rw [q_t90, h]; rfl)
