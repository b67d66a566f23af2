theorem q_o91_0 : ((List.range 60).all (q_okc 91)) = true := by decide +kernel
theorem q_o91_1 : ((List.range 52).all fun k => q_okc 91 (60 + k)) = true := by decide +kernel
theorem q_o91 : ∀ pc, q_okc 91 pc = true := q_ofB (b := 112) (q_app (a := 60) (b := 52) (q_o91_0) q_o91_1) (fun pc h => by show q_t91 pc = none; rw [q_t91, h]; rfl)
theorem q_o92_0 : ((List.range 60).all (q_okc 92)) = true := by decide +kernel
theorem q_o92_1 : ((List.range 60).all fun k => q_okc 92 (60 + k)) = true := by decide +kernel
theorem q_o92_2 : ((List.range 22).all fun k => q_okc 92 (120 + k)) = true := by decide +kernel
theorem q_o92 : ∀ pc, q_okc 92 pc = true := q_ofB (b := 142) (q_app (a := 120) (b := 22) (q_app (a := 60) (b := 60) (q_o92_0) q_o92_1) q_o92_2) (fun pc h => by show q_t92 pc = none; rw [q_t92, h]; rfl)
theorem q_o93_0 : ((List.range 36).all (q_okc 93)) = true := by decide +kernel
theorem q_o93 : ∀ pc, q_okc 93 pc = true := q_ofB (b := 36) (q_o93_0) (fun pc h => by show q_t93 pc = none; rw [q_t93, h]; rfl)
theorem q_o94_0 : ((List.range 42).all (q_okc 94)) = true := by decide +kernel
theorem q_o94 : ∀ pc, q_okc 94 pc = true := q_ofB (b := 42) (q_o94_0) (fun pc h => by show q_t94 pc = none; rw [q_t94, h]; rfl)
theorem q_o95_0 : ((List.range 60).all (q_okc 95)) = true := by decide +kernel
theorem q_o95_1 : ((List.range 10).all fun k => q_okc 95 (60 + k)) = true := by decide +kernel
theorem q_o95 : ∀ pc, q_okc 95 pc = true := q_ofB (b := 70) (q_app (a := 60) (b := 10) (q_o95_0) q_o95_1) (fun pc h => by show q_t95 pc = none; rw [q_t95, h]; rfl)
theorem q_o96_0 : ((List.range 60).all (q_okc 96)) = true := by decide +kernel
theorem q_o96_1 : ((List.range 40).all fun k => q_okc 96 (60 + k)) = true := by decide +kernel
theorem q_o96 : ∀ pc, q_okc 96 pc = true := q_ofB (b := 100) (q_app (a := 60) (b := 40) (q_o96_0) q_o96_1) (fun pc h => by show q_t96 pc = none; rw [q_t96, h]; rfl)
theorem q_o97_0 : ((List.range 50).all (q_okc 97)) = true := by decide +kernel
theorem q_o97 : ∀ pc, q_okc 97 pc = true := q_ofB (b := 50) (q_o97_0) (fun pc h => by show q_t97 pc = none; rw [q_t97, h]; rfl)
theorem q_o98_0 : ((List.range 60).all (q_okc 98)) = true := by decide +kernel
theorem q_o98_1 : ((List.range 32).all fun k => q_okc 98 (60 + k)) = true := by decide +kernel
theorem q_o98 : ∀ pc, q_okc 98 pc = true := q_ofB (b := 92) (q_app (a := 60) (b := 32) (q_o98_0) q_o98_1) (fun pc h => by show q_t98 pc = none; rw [q_t98, h]; rfl)
theorem q_o99_0 : ((List.range 60).all (q_okc 99)) = true := by decide +kernel
theorem q_o99 : ∀ pc, q_okc 99 pc = true := q_ofB (b := 60) (q_o99_0) (fun pc h => by show q_t99 pc = none; rw [q_t99, h]; rfl)
theorem q_o100_0 : ((List.range 42).all (q_okc 100)) = true := by decide +kernel
theorem q_o100 : ∀ pc, q_okc 100 pc = true := q_ofB (b := 42) (q_o100_0) (fun pc h => by show q_t100 pc = none; rw [q_t100, h]; rfl)
theorem q_o101_0 : ((List.range 40).all (q_okc 101)) = true := by decide +kernel
theorem q_o101 : ∀ pc, q_okc 101 pc = true := q_ofB (b := 40) (q_o101_0) (fun pc h => by show q_t101 pc = none; rw [q_t101, h]; rfl)
theorem q_o102_0 : ((List.range 17).all (q_okc 102)) = true := by decide +kernel
theorem q_o102 : ∀ pc, q_okc 102 pc = true := q_ofB (b := 17) (q_o102_0) (fun pc h => by show q_t102 pc = none; rw [q_t102, h]; rfl)
theorem q_o103_0 : ((List.range 40).all (q_okc 103)) = true := by decide +kernel
theorem q_o103 : ∀ pc, q_okc 103 pc = true := q_ofB (b := 40) (q_o103_0) (fun pc h => by show q_t103 pc = none; rw [q_t103, h]; rfl)
theorem q_o104_0 : ((List.range 60).all (q_okc 104)) = true := by decide +kernel
theorem q_o104_1 : ((List.range 10).all fun k => q_okc 104 (60 + k)) = true := by decide +kernel
theorem q_o104 : ∀ pc, q_okc 104 pc = true := q_ofB (b := 70) (q_app (a := 60) (b := 10) (q_o104_0) q_o104_1) (fun pc h => by show q_t104 pc = none; rw [q_t104, h]; rfl)
theorem q_o105_0 : ((List.range 60).all (q_okc 105)) = true := by decide +kernel
theorem q_o105_1 : ((List.range 32).all fun k => q_okc 105 (60 + k)) = true := by decide +kernel
theorem q_o105 : ∀ pc, q_okc 105 pc = true := q_ofB (b := 92) (q_app (a := 60) (b := 32) (q_o105_0) q_o105_1) (fun pc h => by show q_t105 pc = none; rw [q_t105, h]; rfl)
theorem q_o106_0 : ((List.range 60).all (q_okc 106)) = true := by decide +kernel
theorem q_o106_1 : ((List.range 44).all fun k => q_okc 106 (60 + k)) = true := by decide +kernel
theorem q_o106 : ∀ pc, q_okc 106 pc = true := q_ofB (b := 104) (q_app (a := 60) (b := 44) (q_o106_0) q_o106_1) (fun pc h => by show q_t106 pc = none; rw [q_t106, h]; rfl)
theorem q_o107_0 : ((List.range 60).all (q_okc 107)) = true := by decide +kernel
theorem q_o107_1 : ((List.range 44).all fun k => q_okc 107 (60 + k)) = true := by decide +kernel
theorem q_o107 : ∀ pc, q_okc 107 pc = true := q_ofB (b := 104) (q_app (a := 60) (b := 44) (q_o107_0) q_o107_1) (fun pc h => by show q_t107 pc = none; rw [q_t107, h]; rfl)
theorem q_o108_0 : ((List.range 60).all (q_okc 108)) = true := by decide +kernel
theorem q_o108_1 : ((List.range 35).all fun k => q_okc 108 (60 + k)) = true := by decide +kernel
theorem q_o108 : ∀ pc, q_okc 108 pc = true := q_ofB (b := 95) (q_app (a := 60) (b := 35) (q_o108_0) q_o108_1) (fun pc h => by show q_t108 pc = none; rw [q_t108, h]; rfl)
theorem q_o109_0 : ((List.range 60).all (q_okc 109)) = true := by decide +kernel
theorem q_o109_1 : ((List.range 60).all fun k => q_okc 109 (60 + k)) = true := by decide +kernel
theorem q_o109_2 : ((List.range 25).all fun k => q_okc 109 (120 + k)) = true := by decide +kernel
theorem q_o109 : ∀ pc, q_okc 109 pc = true := q_ofB (b := 145) (q_app (a := 120) (b := 25) (q_app (a := 60) (b := 60) (q_o109_0) q_o109_1) q_o109_2) (fun pc h => by show q_t109 pc = none; rw [q_t109, h]; rfl)
theorem q_o110_0 : ((List.range 53).all (q_okc 110)) = true := by decide +kernel
theorem q_o110 : ∀ pc, q_okc 110 pc = true := q_ofB (b := 53) (q_o110_0) (fun pc h => by show q_t110 pc = none; rw [q_t110, h]; rfl)
theorem q_o111_0 : ((List.range 22).all (q_okc 111)) = true := by decide +kernel
theorem q_o111 : ∀ pc, q_okc 111 pc = true := q_ofB (b := 22) (q_o111_0) (fun pc h => by show q_t111 pc = none; rw [q_t111, h]; rfl)
theorem q_o112_0 : ((List.range 60).all (q_okc 112)) = true := by decide +kernel
theorem q_o112_1 : ((List.range 60).all fun k => q_okc 112 (60 + k)) = true := by decide +kernel
theorem q_o112_2 : ((List.range 60).all fun k => q_okc 112 (120 + k)) = true := by decide +kernel
theorem q_o112_3 : ((List.range 60).all fun k => q_okc 112 (180 + k)) = true := by decide +kernel
theorem q_o112_4 : ((List.range 60).all fun k => q_okc 112 (240 + k)) = true := by decide +kernel
theorem q_o112_5 : ((List.range 60).all fun k => q_okc 112 (300 + k)) = true := by decide +kernel
theorem q_o112_6 : ((List.range 60).all fun k => q_okc 112 (360 + k)) = true := by decide +kernel
theorem q_o112_7 : ((List.range 60).all fun k => q_okc 112 (420 + k)) = true := by decide +kernel
theorem q_o112_8 : ((List.range 60).all fun k => q_okc 112 (480 + k)) = true := by decide +kernel
theorem q_o112_9 : ((List.range 60).all fun k => q_okc 112 (540 + k)) = true := by decide +kernel
theorem q_o112_10 : ((List.range 60).all fun k => q_okc 112 (600 + k)) = true := by decide +kernel
theorem q_o112_11 : ((List.range 49).all fun k => q_okc 112 (660 + k)) = true := by decide +kernel
theorem q_o112 : ∀ pc, q_okc 112 pc = true := q_ofB (b := 709) (q_app (a := 660) (b := 49) (q_app (a := 600) (b := 60) (q_app (a := 540) (b := 60) (q_app (a := 480) (b := 60) (q_app (a := 420) (b := 60) (q_app (a := 360) (b := 60) (q_app (a := 300) (b := 60) (q_app (a := 240) (b := 60) (q_app (a := 180) (b := 60) (q_app (a := 120) (b := 60) (q_app (a := 60) (b := 60) (q_o112_0) q_o112_1) q_o112_2) q_o112_3) q_o112_4) q_o112_5) q_o112_6) q_o112_7) q_o112_8) q_o112_9) q_o112_10) q_o112_11) (fun pc h => by show q_t112 pc = none; rw [q_t112, h]; rfl)
theorem q_oall : ∀ mi, mi < 113 → ∀ pc, q_okc mi pc = true
  | 0, _ => q_o0
  | 1, _ => q_o1
  | 2, _ => q_o2
  | 3, _ => q_o3
  | 4, _ => q_o4
  | 5, _ => q_o5
  | 6, _ => q_o6
  | 7, _ => q_o7
  | 8, _ => q_o8
  | 9, _ => q_o9
  | 10, _ => q_o10
  | 11, _ => q_o11
  | 12, _ => q_o12
  | 13, _ => q_o13
  | 14, _ => q_o14
  | 15, _ => q_o15
  | 16, _ => q_o16
  | 17, _ => q_o17
  | 18, _ => q_o18
  | 19, _ => q_o19
  | 20, _ => q_o20
  | 21, _ => q_o21
  | 22, _ => q_o22
  | 23, _ => q_o23
  | 24, _ => q_o24
  | 25, _ => q_o25
  | 26, _ => q_o26
  | 27, _ => q_o27
  | 28, _ => q_o28
  | 29, _ => q_o29
  | 30, _ => q_o30
  | 31, _ => q_o31
  | 32, _ => q_o32
  | 33, _ => q_o33
  | 34, _ => q_o34
  | 35, _ => q_o35
  | 36, _ => q_o36
  | 37, _ => q_o37
  | 38, _ => q_o38
  | 39, _ => q_o39
  | 40, _ => q_o40
  | 41, _ => q_o41
  | 42, _ => q_o42
  | 43, _ => q_o43
  | 44, _ => q_o44
  | 45, _ => q_o45
  | 46, _ => q_o46
  | 47, _ => q_o47
  | 48, _ => q_o48
  | 49, _ => q_o49
  | 50, _ => q_o50
  | 51, _ => q_o51
  | 52, _ => q_o52
  | 53, _ => q_o53
  | 54, _ => q_o54
  | 55, _ => q_o55
  | 56, _ => q_o56
  | 57, _ => q_o57
  | 58, _ => q_o58
  | 59, _ => q_o59
  | 60, _ => q_o60
  | 61, _ => q_o61
  | 62, _ => q_o62
  | 63, _ => q_o63
  | 64, _ => q_o64
  | 65, _ => q_o65
  | 66, _ => q_o66
  | 67, _ => q_o67
  | 68, _ => q_o68
  | 69, _ => q_o69
  | 70, _ => q_o70
  | 71, _ => q_o71
  | 72, _ => q_o72
  | 73, _ => q_o73
  | 74, _ => q_o74
  | 75, _ => q_o75
  | 76, _ => q_o76
  | 77, _ => q_o77
  | 78, _ => q_o78
  | 79, _ => q_o79
  | 80, _ => q_o80
  | 81, _ => q_o81
  | 82, _ => q_o82
  | 83, _ => q_o83
  | 84, _ => q_o84
  | 85, _ => q_o85
  | 86, _ => q_o86
  | 87, _ => q_o87
  | 88, _ => q_o88
  | 89, _ => q_o89
  | 90, _ => q_o90
  | 91, _ => q_o91
  | 92, _ => q_o92
  | 93, _ => q_o93
  | 94, _ => q_o94
  | 95, _ => q_o95
  | 96, _ => q_o96
  | 97, _ => q_o97
  | 98, _ => q_o98
  | 99, _ => q_o99
  | 100, _ => q_o100
  | 101, _ => q_o101
  | 102, _ => q_o102
  | 103, _ => q_o103
  | 104, _ => q_o104
  | 105, _ => q_o105
  | 106, _ => q_o106
  | 107, _ => q_o107
  | 108, _ => q_o108
  | 109, _ => q_o109
  | 110, _ => q_o110
  | 111, _ => q_o111
  | 112, _ => q_o112
  | k + 113, h => absurd h (by omega)
theorem q_ok {mi pc : Nat} {i : Instr} {ex : Nat} (h : q_cd mi pc = some (i, ex)) : mi < 113 ∧ q_okb mi pc i ex = true := by
  have hg : mi < 113 := by
    unfold q_cd at h
    rcases Nat.lt_or_ge mi 113 with h1 | h1
    · exact h1
    · rw [show Nat.ble 113 mi = true from Nat.ble_eq.mpr h1, cond_true] at h
      cases h
  have h3 := q_oall mi hg pc
  rw [q_okc, h] at h3
  exact ⟨hg, h3⟩
