theorem ar_13 {E : EE} (hE : GE E) : AR E 13 1 121 := ⟨ge_lt hE rfl, ge_ly hE rfl rfl⟩
theorem ar_14 {E : EE} (hE : GE E) : AR E 14 1 121 := ⟨ge_lt hE rfl, ge_ly hE rfl rfl⟩
theorem ar_15 {E : EE} (hE : GE E) : AR E 15 1 121 := ⟨ge_lt hE rfl, ge_ly hE rfl rfl⟩
theorem ar_16 {E : EE} (hE : GE E) : AR E 16 1 6 := ⟨ge_lt hE rfl, ge_ly hE rfl rfl⟩
theorem ar_18 {E : EE} (hE : GE E) : AR E 18 1 120 := ⟨ge_lt hE rfl, ge_ly hE rfl rfl⟩
theorem ar_2 {E : EE} (hE : GE E) : AR E 2 5 9 := ⟨ge_lt hE rfl, ge_ly hE rfl rfl⟩
theorem ar_20 {E : EE} (hE : GE E) : AR E 20 1 121 := ⟨ge_lt hE rfl, ge_ly hE rfl rfl⟩
theorem ar_21 {E : EE} (hE : GE E) : AR E 21 1 121 := ⟨ge_lt hE rfl, ge_ly hE rfl rfl⟩
theorem ar_25 {E : EE} (hE : GE E) : AR E 25 1 12 := ⟨ge_lt hE rfl, ge_ly hE rfl rfl⟩
theorem ar_27 {E : EE} (hE : GE E) : AR E 27 1 6 := ⟨ge_lt hE rfl, ge_ly hE rfl rfl⟩
theorem ar_28 {E : EE} (hE : GE E) : AR E 28 1 6 := ⟨ge_lt hE rfl, ge_ly hE rfl rfl⟩
theorem ar_29 {E : EE} (hE : GE E) : AR E 29 1 6 := ⟨ge_lt hE rfl, ge_ly hE rfl rfl⟩
theorem ar_30 {E : EE} (hE : GE E) : AR E 30 6 6 := ⟨ge_lt hE rfl, ge_ly hE rfl rfl⟩
theorem ar_38 {E : EE} (hE : GE E) : AR E 38 1 12 := ⟨ge_lt hE rfl, ge_ly hE rfl rfl⟩
theorem ar_40 {E : EE} (hE : GE E) : AR E 40 1 12 := ⟨ge_lt hE rfl, ge_ly hE rfl rfl⟩
theorem ar_41 {E : EE} (hE : GE E) : AR E 41 1 864 := ⟨ge_lt hE rfl, ge_ly hE rfl rfl⟩
theorem ar_43 {E : EE} (hE : GE E) : AR E 43 1 4 := ⟨ge_lt hE rfl, ge_ly hE rfl rfl⟩
theorem ar_44 {E : EE} (hE : GE E) : AR E 44 1 4 := ⟨ge_lt hE rfl, ge_ly hE rfl rfl⟩
theorem ar_45 {E : EE} (hE : GE E) : AR E 45 1 6 := ⟨ge_lt hE rfl, ge_ly hE rfl rfl⟩
theorem ar_46 {E : EE} (hE : GE E) : AR E 46 1 216 := ⟨ge_lt hE rfl, ge_ly hE rfl rfl⟩
theorem ar_48 {E : EE} (hE : GE E) : AR E 48 1 4 := ⟨ge_lt hE rfl, ge_ly hE rfl rfl⟩
theorem ar_49 {E : EE} (hE : GE E) : AR E 49 1 4 := ⟨ge_lt hE rfl, ge_ly hE rfl rfl⟩
theorem ar_50 {E : EE} (hE : GE E) : AR E 50 1 12 := ⟨ge_lt hE rfl, ge_ly hE rfl rfl⟩
theorem ar_51 {E : EE} (hE : GE E) : AR E 51 1 12 := ⟨ge_lt hE rfl, ge_ly hE rfl rfl⟩
theorem ar_53 {E : EE} (hE : GE E) : AR E 53 1 40 := ⟨ge_lt hE rfl, ge_ly hE rfl rfl⟩
theorem ar_54 {E : EE} (hE : GE E) : AR E 54 1 40 := ⟨ge_lt hE rfl, ge_ly hE rfl rfl⟩
theorem ar_55 {E : EE} (hE : GE E) : AR E 55 1 40 := ⟨ge_lt hE rfl, ge_ly hE rfl rfl⟩
theorem ar_56 {E : EE} (hE : GE E) : AR E 56 1 40 := ⟨ge_lt hE rfl, ge_ly hE rfl rfl⟩
theorem ar_58 {E : EE} (hE : GE E) : AR E 58 1 50 := ⟨ge_lt hE rfl, ge_ly hE rfl rfl⟩
theorem ar_59 {E : EE} (hE : GE E) : AR E 59 1 24 := ⟨ge_lt hE rfl, ge_ly hE rfl rfl⟩
theorem ar_61 {E : EE} (hE : GE E) : AR E 61 1 6 := ⟨ge_lt hE rfl, ge_ly hE rfl rfl⟩
theorem ar_62 {E : EE} (hE : GE E) : AR E 62 1 6 := ⟨ge_lt hE rfl, ge_ly hE rfl rfl⟩
theorem ar_63 {E : EE} (hE : GE E) : AR E 63 1 6 := ⟨ge_lt hE rfl, ge_ly hE rfl rfl⟩
theorem ar_64 {E : EE} (hE : GE E) : AR E 64 1 6 := ⟨ge_lt hE rfl, ge_ly hE rfl rfl⟩
theorem ar_65 {E : EE} (hE : GE E) : AR E 65 1 12 := ⟨ge_lt hE rfl, ge_ly hE rfl rfl⟩
theorem ar_66 {E : EE} (hE : GE E) : AR E 66 1 12 := ⟨ge_lt hE rfl, ge_ly hE rfl rfl⟩
theorem ar_67 {E : EE} (hE : GE E) : AR E 67 1 12 := ⟨ge_lt hE rfl, ge_ly hE rfl rfl⟩
theorem ar_68 {E : EE} (hE : GE E) : AR E 68 1 2 := ⟨ge_lt hE rfl, ge_ly hE rfl rfl⟩
theorem ar_69 {E : EE} (hE : GE E) : AR E 69 1 40 := ⟨ge_lt hE rfl, ge_ly hE rfl rfl⟩
theorem ar_70 {E : EE} (hE : GE E) : AR E 70 1 40 := ⟨ge_lt hE rfl, ge_ly hE rfl rfl⟩
theorem ar_71 {E : EE} (hE : GE E) : AR E 71 1 40 := ⟨ge_lt hE rfl, ge_ly hE rfl rfl⟩
theorem ar_72 {E : EE} (hE : GE E) : AR E 72 1 40 := ⟨ge_lt hE rfl, ge_ly hE rfl rfl⟩
theorem ar_73 {E : EE} (hE : GE E) : AR E 73 2 120 := ⟨ge_lt hE rfl, ge_ly hE rfl rfl⟩
theorem ar_74 {E : EE} (hE : GE E) : AR E 74 2 260 := ⟨ge_lt hE rfl, ge_ly hE rfl rfl⟩
theorem ar_75 {E : EE} (hE : GE E) : AR E 75 1 260 := ⟨ge_lt hE rfl, ge_ly hE rfl rfl⟩
theorem ar_76 {E : EE} (hE : GE E) : AR E 76 1 2 := ⟨ge_lt hE rfl, ge_ly hE rfl rfl⟩
theorem ar_77 {E : EE} (hE : GE E) : AR E 77 3 122 := ⟨ge_lt hE rfl, ge_ly hE rfl rfl⟩
theorem ar_78 {E : EE} (hE : GE E) : AR E 78 3 122 := ⟨ge_lt hE rfl, ge_ly hE rfl rfl⟩
theorem ar_79 {E : EE} (hE : GE E) : AR E 79 1 6 := ⟨ge_lt hE rfl, ge_ly hE rfl rfl⟩
theorem ar_80 {E : EE} (hE : GE E) : AR E 80 1 130 := ⟨ge_lt hE rfl, ge_ly hE rfl rfl⟩
theorem ar_81 {E : EE} (hE : GE E) : AR E 81 1 12 := ⟨ge_lt hE rfl, ge_ly hE rfl rfl⟩
theorem ar_82 {E : EE} (hE : GE E) : AR E 82 1 6 := ⟨ge_lt hE rfl, ge_ly hE rfl rfl⟩
theorem ar_83 {E : EE} (hE : GE E) : AR E 83 1 4 := ⟨ge_lt hE rfl, ge_ly hE rfl rfl⟩
theorem ar_84 {E : EE} (hE : GE E) : AR E 84 1 12 := ⟨ge_lt hE rfl, ge_ly hE rfl rfl⟩
theorem ar_85 {E : EE} (hE : GE E) : AR E 85 1 12 := ⟨ge_lt hE rfl, ge_ly hE rfl rfl⟩
theorem ar_86 {E : EE} (hE : GE E) : AR E 86 1 4 := ⟨ge_lt hE rfl, ge_ly hE rfl rfl⟩
theorem ar_87 {E : EE} (hE : GE E) : AR E 87 1 50 := ⟨ge_lt hE rfl, ge_ly hE rfl rfl⟩
theorem ar_88 {E : EE} (hE : GE E) : AR E 88 1 24 := ⟨ge_lt hE rfl, ge_ly hE rfl rfl⟩
theorem ar_89 {E : EE} (hE : GE E) : AR E 89 1 6 := ⟨ge_lt hE rfl, ge_ly hE rfl rfl⟩
theorem ar_90 {E : EE} (hE : GE E) : AR E 90 1 6 := ⟨ge_lt hE rfl, ge_ly hE rfl rfl⟩
theorem ar_91 {E : EE} (hE : GE E) : AR E 91 4 360 := ⟨ge_lt hE rfl, ge_ly hE rfl rfl⟩
theorem ar_92 {E : EE} (hE : GE E) : AR E 92 4 60 := ⟨ge_lt hE rfl, ge_ly hE rfl rfl⟩
theorem aw_3 {E : EE} (hE : GE E) {j : Nat} (h : j < 9) : AR E (3 + j) 1 12 := by
  have : j = 0 ∨ j = 1 ∨ j = 2 ∨ j = 3 ∨ j = 4 ∨ j = 5 ∨ j = 6 ∨ j = 7 ∨ j = 8 := by omega
  rcases this with rfl | rfl | rfl | rfl | rfl | rfl | rfl | rfl | rfl
  · exact ⟨ge_lt hE rfl, ge_ly hE rfl rfl⟩
  · exact ⟨ge_lt hE rfl, ge_ly hE rfl rfl⟩
  · exact ⟨ge_lt hE rfl, ge_ly hE rfl rfl⟩
  · exact ⟨ge_lt hE rfl, ge_ly hE rfl rfl⟩
  · exact ⟨ge_lt hE rfl, ge_ly hE rfl rfl⟩
  · exact ⟨ge_lt hE rfl, ge_ly hE rfl rfl⟩
  · exact ⟨ge_lt hE rfl, ge_ly hE rfl rfl⟩
  · exact ⟨ge_lt hE rfl, ge_ly hE rfl rfl⟩
  · exact ⟨ge_lt hE rfl, ge_ly hE rfl rfl⟩
theorem aw_31 {E : EE} (hE : GE E) {j : Nat} (h : j < 6) : AR E (31 + j) 4 60 := by
  have : j = 0 ∨ j = 1 ∨ j = 2 ∨ j = 3 ∨ j = 4 ∨ j = 5 := by omega
  rcases this with rfl | rfl | rfl | rfl | rfl | rfl
  · exact ⟨ge_lt hE rfl, ge_ly hE rfl rfl⟩
  · exact ⟨ge_lt hE rfl, ge_ly hE rfl rfl⟩
  · exact ⟨ge_lt hE rfl, ge_ly hE rfl rfl⟩
  · exact ⟨ge_lt hE rfl, ge_ly hE rfl rfl⟩
  · exact ⟨ge_lt hE rfl, ge_ly hE rfl rfl⟩
  · exact ⟨ge_lt hE rfl, ge_ly hE rfl rfl⟩
theorem fa_0_13_52 {E : EE} (hE : GE E) : FA E 0 13 52 53 := ⟨0, 1, rfl, ge_lt hE rfl, ge_ly hE rfl rfl, by decide, rfl, ge_rv hE (q := (52, 1, 53)) (by decide +kernel)⟩
theorem fa_0_17_52 {E : EE} (hE : GE E) : FA E 0 17 52 54 := ⟨0, 2, rfl, ge_lt hE rfl, ge_ly hE rfl rfl, by decide, rfl, ge_rv hE (q := (52, 2, 54)) (by decide +kernel)⟩
theorem fa_0_20_52 {E : EE} (hE : GE E) : FA E 0 20 52 55 := ⟨0, 3, rfl, ge_lt hE rfl, ge_ly hE rfl rfl, by decide, rfl, ge_rv hE (q := (52, 3, 55)) (by decide +kernel)⟩
theorem fa_0_23_52 {E : EE} (hE : GE E) : FA E 0 23 52 56 := ⟨0, 4, rfl, ge_lt hE rfl, ge_ly hE rfl rfl, by decide, rfl, ge_rv hE (q := (52, 4, 56)) (by decide +kernel)⟩
theorem fa_0_7_52 {E : EE} (hE : GE E) : FA E 0 7 52 1 := ⟨0, 0, rfl, ge_lt hE rfl, ge_ly hE rfl rfl, by decide, rfl, ge_rv hE (q := (52, 0, 1)) (by decide +kernel)⟩
theorem fa_10_11_1 {E : EE} (hE : GE E) : FA E 10 11 1 2 := ⟨10, 0, rfl, ge_lt hE rfl, ge_ly hE rfl rfl, by decide, rfl, ge_rv hE (q := (1, 0, 2)) (by decide +kernel)⟩
theorem fa_11_10_0 {E : EE} (hE : GE E) : FA E 11 10 0 1 := ⟨11, 0, rfl, ge_lt hE rfl, ge_ly hE rfl rfl, by decide, rfl, ge_rv hE (q := (0, 0, 1)) (by decide +kernel)⟩
theorem fa_11_19_0 {E : EE} (hE : GE E) : FA E 11 19 0 12 := ⟨11, 1, rfl, ge_lt hE rfl, ge_ly hE rfl rfl, by decide, rfl, ge_rv hE (q := (0, 1, 12)) (by decide +kernel)⟩
theorem fa_11_26_0 {E : EE} (hE : GE E) : FA E 11 26 0 17 := ⟨11, 2, rfl, ge_lt hE rfl, ge_ly hE rfl rfl, by decide, rfl, ge_rv hE (q := (0, 2, 17)) (by decide +kernel)⟩
theorem fa_11_35_0 {E : EE} (hE : GE E) : FA E 11 35 0 24 := ⟨11, 3, rfl, ge_lt hE rfl, ge_ly hE rfl rfl, by decide, rfl, ge_rv hE (q := (0, 3, 24)) (by decide +kernel)⟩
theorem fa_11_42_0 {E : EE} (hE : GE E) : FA E 11 42 0 26 := ⟨11, 4, rfl, ge_lt hE rfl, ge_ly hE rfl rfl, by decide, rfl, ge_rv hE (q := (0, 4, 26)) (by decide +kernel)⟩
theorem fa_11_51_0 {E : EE} (hE : GE E) : FA E 11 51 0 37 := ⟨11, 5, rfl, ge_lt hE rfl, ge_ly hE rfl rfl, by decide, rfl, ge_rv hE (q := (0, 5, 37)) (by decide +kernel)⟩
theorem fa_11_60_0 {E : EE} (hE : GE E) : FA E 11 60 0 39 := ⟨11, 6, rfl, ge_lt hE rfl, ge_ly hE rfl rfl, by decide, rfl, ge_rv hE (q := (0, 6, 39)) (by decide +kernel)⟩
theorem fa_11_67_0 {E : EE} (hE : GE E) : FA E 11 67 0 42 := ⟨11, 7, rfl, ge_lt hE rfl, ge_ly hE rfl rfl, by decide, rfl, ge_rv hE (q := (0, 7, 42)) (by decide +kernel)⟩
theorem fa_11_76_0 {E : EE} (hE : GE E) : FA E 11 76 0 47 := ⟨11, 8, rfl, ge_lt hE rfl, ge_ly hE rfl rfl, by decide, rfl, ge_rv hE (q := (0, 8, 47)) (by decide +kernel)⟩
theorem fa_11_83_0 {E : EE} (hE : GE E) : FA E 11 83 0 52 := ⟨11, 9, rfl, ge_lt hE rfl, ge_ly hE rfl rfl, by decide, rfl, ge_rv hE (q := (0, 9, 52)) (by decide +kernel)⟩
theorem fa_11_90_0 {E : EE} (hE : GE E) : FA E 11 90 0 57 := ⟨11, 10, rfl, ge_lt hE rfl, ge_ly hE rfl rfl, by decide, rfl, ge_rv hE (q := (0, 10, 57)) (by decide +kernel)⟩
theorem fa_12_101_60 {E : EE} (hE : GE E) : FA E 12 101 60 90 := ⟨12, 57, rfl, ge_lt hE rfl, ge_ly hE rfl rfl, by decide, rfl, ge_rv hE (q := (60, 57, 90)) (by decide +kernel)⟩
theorem fa_12_104_60 {E : EE} (hE : GE E) : FA E 12 104 60 91 := ⟨12, 58, rfl, ge_lt hE rfl, ge_ly hE rfl rfl, by decide, rfl, ge_rv hE (q := (60, 58, 91)) (by decide +kernel)⟩
theorem fa_12_108_60 {E : EE} (hE : GE E) : FA E 12 108 60 92 := ⟨12, 59, rfl, ge_lt hE rfl, ge_ly hE rfl rfl, by decide, rfl, ge_rv hE (q := (60, 59, 92)) (by decide +kernel)⟩
theorem fa_12_15_60 {E : EE} (hE : GE E) : FA E 12 15 60 62 := ⟨12, 3, rfl, ge_lt hE rfl, ge_ly hE rfl rfl, by decide, rfl, ge_rv hE (q := (60, 3, 62)) (by decide +kernel)⟩
theorem fa_12_18_60 {E : EE} (hE : GE E) : FA E 12 18 60 63 := ⟨12, 4, rfl, ge_lt hE rfl, ge_ly hE rfl rfl, by decide, rfl, ge_rv hE (q := (60, 4, 63)) (by decide +kernel)⟩
theorem fa_12_21_60 {E : EE} (hE : GE E) : FA E 12 21 60 64 := ⟨12, 5, rfl, ge_lt hE rfl, ge_ly hE rfl rfl, by decide, rfl, ge_rv hE (q := (60, 5, 64)) (by decide +kernel)⟩
theorem fa_12_24_60 {E : EE} (hE : GE E) : FA E 12 24 60 65 := ⟨12, 7, rfl, ge_lt hE rfl, ge_ly hE rfl rfl, by decide, rfl, ge_rv hE (q := (60, 7, 65)) (by decide +kernel)⟩
theorem fa_12_27_60 {E : EE} (hE : GE E) : FA E 12 27 60 66 := ⟨12, 8, rfl, ge_lt hE rfl, ge_ly hE rfl rfl, by decide, rfl, ge_rv hE (q := (60, 8, 66)) (by decide +kernel)⟩
theorem fa_12_30_60 {E : EE} (hE : GE E) : FA E 12 30 60 67 := ⟨12, 9, rfl, ge_lt hE rfl, ge_ly hE rfl rfl, by decide, rfl, ge_rv hE (q := (60, 9, 67)) (by decide +kernel)⟩
theorem fa_12_33_60 {E : EE} (hE : GE E) : FA E 12 33 60 68 := ⟨12, 10, rfl, ge_lt hE rfl, ge_ly hE rfl rfl, by decide, rfl, ge_rv hE (q := (60, 10, 68)) (by decide +kernel)⟩
theorem fa_12_36_60 {E : EE} (hE : GE E) : FA E 12 36 60 69 := ⟨12, 13, rfl, ge_lt hE rfl, ge_ly hE rfl rfl, by decide, rfl, ge_rv hE (q := (60, 13, 69)) (by decide +kernel)⟩
theorem fa_12_39_60 {E : EE} (hE : GE E) : FA E 12 39 60 70 := ⟨12, 14, rfl, ge_lt hE rfl, ge_ly hE rfl rfl, by decide, rfl, ge_rv hE (q := (60, 14, 70)) (by decide +kernel)⟩
theorem fa_12_42_60 {E : EE} (hE : GE E) : FA E 12 42 60 71 := ⟨12, 15, rfl, ge_lt hE rfl, ge_ly hE rfl rfl, by decide, rfl, ge_rv hE (q := (60, 15, 71)) (by decide +kernel)⟩
theorem fa_12_45_60 {E : EE} (hE : GE E) : FA E 12 45 60 72 := ⟨12, 16, rfl, ge_lt hE rfl, ge_ly hE rfl rfl, by decide, rfl, ge_rv hE (q := (60, 16, 72)) (by decide +kernel)⟩
theorem fa_12_48_60 {E : EE} (hE : GE E) : FA E 12 48 60 73 := ⟨12, 17, rfl, ge_lt hE rfl, ge_ly hE rfl rfl, by decide, rfl, ge_rv hE (q := (60, 17, 73)) (by decide +kernel)⟩
theorem fa_12_52_60 {E : EE} (hE : GE E) : FA E 12 52 60 74 := ⟨12, 23, rfl, ge_lt hE rfl, ge_ly hE rfl rfl, by decide, rfl, ge_rv hE (q := (60, 23, 74)) (by decide +kernel)⟩
theorem fa_12_55_60 {E : EE} (hE : GE E) : FA E 12 55 60 75 := ⟨12, 24, rfl, ge_lt hE rfl, ge_ly hE rfl rfl, by decide, rfl, ge_rv hE (q := (60, 24, 75)) (by decide +kernel)⟩
theorem fa_12_58_60 {E : EE} (hE : GE E) : FA E 12 58 60 76 := ⟨12, 25, rfl, ge_lt hE rfl, ge_ly hE rfl rfl, by decide, rfl, ge_rv hE (q := (60, 25, 76)) (by decide +kernel)⟩
theorem fa_12_61_60 {E : EE} (hE : GE E) : FA E 12 61 60 77 := ⟨12, 26, rfl, ge_lt hE rfl, ge_ly hE rfl rfl, by decide, rfl, ge_rv hE (q := (60, 26, 77)) (by decide +kernel)⟩
theorem fa_12_65_60 {E : EE} (hE : GE E) : FA E 12 65 60 78 := ⟨12, 27, rfl, ge_lt hE rfl, ge_ly hE rfl rfl, by decide, rfl, ge_rv hE (q := (60, 27, 78)) (by decide +kernel)⟩
theorem fa_12_68_60 {E : EE} (hE : GE E) : FA E 12 68 60 79 := ⟨12, 28, rfl, ge_lt hE rfl, ge_ly hE rfl rfl, by decide, rfl, ge_rv hE (q := (60, 28, 79)) (by decide +kernel)⟩
theorem fa_12_71_60 {E : EE} (hE : GE E) : FA E 12 71 60 80 := ⟨12, 29, rfl, ge_lt hE rfl, ge_ly hE rfl rfl, by decide, rfl, ge_rv hE (q := (60, 29, 80)) (by decide +kernel)⟩
theorem fa_12_74_60 {E : EE} (hE : GE E) : FA E 12 74 60 81 := ⟨12, 31, rfl, ge_lt hE rfl, ge_ly hE rfl rfl, by decide, rfl, ge_rv hE (q := (60, 31, 81)) (by decide +kernel)⟩
theorem fa_12_77_60 {E : EE} (hE : GE E) : FA E 12 77 60 82 := ⟨12, 35, rfl, ge_lt hE rfl, ge_ly hE rfl rfl, by decide, rfl, ge_rv hE (q := (60, 35, 82)) (by decide +kernel)⟩
theorem fa_12_80_60 {E : EE} (hE : GE E) : FA E 12 80 60 83 := ⟨12, 45, rfl, ge_lt hE rfl, ge_ly hE rfl rfl, by decide, rfl, ge_rv hE (q := (60, 45, 83)) (by decide +kernel)⟩
theorem fa_12_83_60 {E : EE} (hE : GE E) : FA E 12 83 60 84 := ⟨12, 49, rfl, ge_lt hE rfl, ge_ly hE rfl rfl, by decide, rfl, ge_rv hE (q := (60, 49, 84)) (by decide +kernel)⟩
theorem fa_12_86_60 {E : EE} (hE : GE E) : FA E 12 86 60 85 := ⟨12, 50, rfl, ge_lt hE rfl, ge_ly hE rfl rfl, by decide, rfl, ge_rv hE (q := (60, 50, 85)) (by decide +kernel)⟩
theorem fa_12_89_60 {E : EE} (hE : GE E) : FA E 12 89 60 86 := ⟨12, 51, rfl, ge_lt hE rfl, ge_ly hE rfl rfl, by decide, rfl, ge_rv hE (q := (60, 51, 86)) (by decide +kernel)⟩
theorem fa_12_92_60 {E : EE} (hE : GE E) : FA E 12 92 60 87 := ⟨12, 53, rfl, ge_lt hE rfl, ge_ly hE rfl rfl, by decide, rfl, ge_rv hE (q := (60, 53, 87)) (by decide +kernel)⟩
theorem fa_12_95_60 {E : EE} (hE : GE E) : FA E 12 95 60 88 := ⟨12, 55, rfl, ge_lt hE rfl, ge_ly hE rfl rfl, by decide, rfl, ge_rv hE (q := (60, 55, 88)) (by decide +kernel)⟩
theorem fa_12_98_60 {E : EE} (hE : GE E) : FA E 12 98 60 89 := ⟨12, 56, rfl, ge_lt hE rfl, ge_ly hE rfl rfl, by decide, rfl, ge_rv hE (q := (60, 56, 89)) (by decide +kernel)⟩
theorem fa_12_9_60 {E : EE} (hE : GE E) : FA E 12 9 60 61 := ⟨12, 2, rfl, ge_lt hE rfl, ge_ly hE rfl rfl, by decide, rfl, ge_rv hE (q := (60, 2, 61)) (by decide +kernel)⟩
theorem fa_1_15_47 {E : EE} (hE : GE E) : FA E 1 15 47 48 := ⟨1, 1, rfl, ge_lt hE rfl, ge_ly hE rfl rfl, by decide, rfl, ge_rv hE (q := (47, 1, 48)) (by decide +kernel)⟩
theorem fa_1_19_47 {E : EE} (hE : GE E) : FA E 1 19 47 49 := ⟨1, 2, rfl, ge_lt hE rfl, ge_ly hE rfl rfl, by decide, rfl, ge_rv hE (q := (47, 2, 49)) (by decide +kernel)⟩
theorem fa_1_22_47 {E : EE} (hE : GE E) : FA E 1 22 47 50 := ⟨1, 3, rfl, ge_lt hE rfl, ge_ly hE rfl rfl, by decide, rfl, ge_rv hE (q := (47, 3, 50)) (by decide +kernel)⟩
theorem fa_1_25_47 {E : EE} (hE : GE E) : FA E 1 25 47 51 := ⟨1, 4, rfl, ge_lt hE rfl, ge_ly hE rfl rfl, by decide, rfl, ge_rv hE (q := (47, 4, 51)) (by decide +kernel)⟩
theorem fa_1_9_47 {E : EE} (hE : GE E) : FA E 1 9 47 1 := ⟨1, 0, rfl, ge_lt hE rfl, ge_ly hE rfl rfl, by decide, rfl, ge_rv hE (q := (47, 0, 1)) (by decide +kernel)⟩
theorem fa_2_15_37 {E : EE} (hE : GE E) : FA E 2 15 37 24 := ⟨2, 1, rfl, ge_lt hE rfl, ge_ly hE rfl rfl, by decide, rfl, ge_rv hE (q := (37, 1, 24)) (by decide +kernel)⟩
theorem fa_2_19_37 {E : EE} (hE : GE E) : FA E 2 19 37 38 := ⟨2, 2, rfl, ge_lt hE rfl, ge_ly hE rfl rfl, by decide, rfl, ge_rv hE (q := (37, 2, 38)) (by decide +kernel)⟩
theorem fa_2_9_37 {E : EE} (hE : GE E) : FA E 2 9 37 1 := ⟨2, 0, rfl, ge_lt hE rfl, ge_ly hE rfl rfl, by decide, rfl, ge_rv hE (q := (37, 0, 1)) (by decide +kernel)⟩
theorem fa_3_11_57 {E : EE} (hE : GE E) : FA E 3 11 57 58 := ⟨3, 0, rfl, ge_lt hE rfl, ge_ly hE rfl rfl, by decide, rfl, ge_rv hE (q := (57, 0, 58)) (by decide +kernel)⟩
theorem fa_3_15_57 {E : EE} (hE : GE E) : FA E 3 15 57 59 := ⟨3, 1, rfl, ge_lt hE rfl, ge_ly hE rfl rfl, by decide, rfl, ge_rv hE (q := (57, 1, 59)) (by decide +kernel)⟩
theorem fa_4_11_12 {E : EE} (hE : GE E) : FA E 4 11 12 13 := ⟨4, 0, rfl, ge_lt hE rfl, ge_ly hE rfl rfl, by decide, rfl, ge_rv hE (q := (12, 0, 13)) (by decide +kernel)⟩
theorem fa_4_11_19 {E : EE} (hE : GE E) : FA E 4 11 19 20 := ⟨4, 0, rfl, ge_lt hE rfl, ge_ly hE rfl rfl, by decide, rfl, ge_rv hE (q := (19, 0, 20)) (by decide +kernel)⟩
theorem fa_4_15_12 {E : EE} (hE : GE E) : FA E 4 15 12 14 := ⟨4, 1, rfl, ge_lt hE rfl, ge_ly hE rfl rfl, by decide, rfl, ge_rv hE (q := (12, 1, 14)) (by decide +kernel)⟩
theorem fa_4_15_19 {E : EE} (hE : GE E) : FA E 4 15 19 21 := ⟨4, 1, rfl, ge_lt hE rfl, ge_ly hE rfl rfl, by decide, rfl, ge_rv hE (q := (19, 1, 21)) (by decide +kernel)⟩
theorem fa_4_18_12 {E : EE} (hE : GE E) : FA E 4 18 12 15 := ⟨4, 2, rfl, ge_lt hE rfl, ge_ly hE rfl rfl, by decide, rfl, ge_rv hE (q := (12, 2, 15)) (by decide +kernel)⟩
theorem fa_4_21_12 {E : EE} (hE : GE E) : FA E 4 21 12 16 := ⟨4, 3, rfl, ge_lt hE rfl, ge_ly hE rfl rfl, by decide, rfl, ge_rv hE (q := (12, 3, 16)) (by decide +kernel)⟩
theorem fa_5_11_17 {E : EE} (hE : GE E) : FA E 5 11 17 18 := ⟨5, 0, rfl, ge_lt hE rfl, ge_ly hE rfl rfl, by decide, rfl, ge_rv hE (q := (17, 0, 18)) (by decide +kernel)⟩
theorem fa_5_18_17 {E : EE} (hE : GE E) : FA E 5 18 17 19 := ⟨5, 1, rfl, ge_lt hE rfl, ge_ly hE rfl rfl, by decide, rfl, ge_rv hE (q := (17, 1, 19)) (by decide +kernel)⟩
theorem fa_6_15_42 {E : EE} (hE : GE E) : FA E 6 15 42 24 := ⟨6, 1, rfl, ge_lt hE rfl, ge_ly hE rfl rfl, by decide, rfl, ge_rv hE (q := (42, 1, 24)) (by decide +kernel)⟩
theorem fa_6_19_42 {E : EE} (hE : GE E) : FA E 6 19 42 43 := ⟨6, 2, rfl, ge_lt hE rfl, ge_ly hE rfl rfl, by decide, rfl, ge_rv hE (q := (42, 2, 43)) (by decide +kernel)⟩
theorem fa_6_23_42 {E : EE} (hE : GE E) : FA E 6 23 42 44 := ⟨6, 3, rfl, ge_lt hE rfl, ge_ly hE rfl rfl, by decide, rfl, ge_rv hE (q := (42, 3, 44)) (by decide +kernel)⟩
theorem fa_6_26_42 {E : EE} (hE : GE E) : FA E 6 26 42 45 := ⟨6, 4, rfl, ge_lt hE rfl, ge_ly hE rfl rfl, by decide, rfl, ge_rv hE (q := (42, 4, 45)) (by decide +kernel)⟩
theorem fa_6_29_42 {E : EE} (hE : GE E) : FA E 6 29 42 46 := ⟨6, 5, rfl, ge_lt hE rfl, ge_ly hE rfl rfl, by decide, rfl, ge_rv hE (q := (42, 5, 46)) (by decide +kernel)⟩
theorem fa_6_9_42 {E : EE} (hE : GE E) : FA E 6 9 42 1 := ⟨6, 0, rfl, ge_lt hE rfl, ge_ly hE rfl rfl, by decide, rfl, ge_rv hE (q := (42, 0, 1)) (by decide +kernel)⟩
theorem fa_7_11_26 {E : EE} (hE : GE E) : FA E 7 11 26 27 := ⟨7, 0, rfl, ge_lt hE rfl, ge_ly hE rfl rfl, by decide, rfl, ge_rv hE (q := (26, 0, 27)) (by decide +kernel)⟩
theorem fa_7_15_26 {E : EE} (hE : GE E) : FA E 7 15 26 28 := ⟨7, 1, rfl, ge_lt hE rfl, ge_ly hE rfl rfl, by decide, rfl, ge_rv hE (q := (26, 1, 28)) (by decide +kernel)⟩
theorem fa_7_18_26 {E : EE} (hE : GE E) : FA E 7 18 26 29 := ⟨7, 2, rfl, ge_lt hE rfl, ge_ly hE rfl rfl, by decide, rfl, ge_rv hE (q := (26, 2, 29)) (by decide +kernel)⟩
theorem fa_7_23_26 {E : EE} (hE : GE E) : FA E 7 23 26 30 := ⟨7, 3, rfl, ge_lt hE rfl, ge_ly hE rfl rfl, by decide, rfl, ge_rv hE (q := (26, 3, 30)) (by decide +kernel)⟩
theorem fa_8_15_24 {E : EE} (hE : GE E) : FA E 8 15 24 12 := ⟨8, 1, rfl, ge_lt hE rfl, ge_ly hE rfl rfl, by decide, rfl, ge_rv hE (q := (24, 1, 12)) (by decide +kernel)⟩
theorem fa_8_19_24 {E : EE} (hE : GE E) : FA E 8 19 24 25 := ⟨8, 2, rfl, ge_lt hE rfl, ge_ly hE rfl rfl, by decide, rfl, ge_rv hE (q := (24, 2, 25)) (by decide +kernel)⟩
theorem fa_8_9_24 {E : EE} (hE : GE E) : FA E 8 9 24 1 := ⟨8, 0, rfl, ge_lt hE rfl, ge_ly hE rfl rfl, by decide, rfl, ge_rv hE (q := (24, 0, 1)) (by decide +kernel)⟩
theorem fa_9_15_39 {E : EE} (hE : GE E) : FA E 9 15 39 24 := ⟨9, 1, rfl, ge_lt hE rfl, ge_ly hE rfl rfl, by decide, rfl, ge_rv hE (q := (39, 1, 24)) (by decide +kernel)⟩
theorem fa_9_19_39 {E : EE} (hE : GE E) : FA E 9 19 39 37 := ⟨9, 2, rfl, ge_lt hE rfl, ge_ly hE rfl rfl, by decide, rfl, ge_rv hE (q := (39, 2, 37)) (by decide +kernel)⟩
theorem fa_9_23_39 {E : EE} (hE : GE E) : FA E 9 23 39 40 := ⟨9, 3, rfl, ge_lt hE rfl, ge_ly hE rfl rfl, by decide, rfl, ge_rv hE (q := (39, 3, 40)) (by decide +kernel)⟩
theorem fa_9_27_39 {E : EE} (hE : GE E) : FA E 9 27 39 41 := ⟨9, 4, rfl, ge_lt hE rfl, ge_ly hE rfl rfl, by decide, rfl, ge_rv hE (q := (39, 4, 41)) (by decide +kernel)⟩
theorem fa_9_9_39 {E : EE} (hE : GE E) : FA E 9 9 39 1 := ⟨9, 0, rfl, ge_lt hE rfl, ge_ly hE rfl rfl, by decide, rfl, ge_rv hE (q := (39, 0, 1)) (by decide +kernel)⟩
theorem ff_0_26_52 {E : EE} (hE : GE E) : FF E 0 26 52 5 1 := ⟨0, rfl, ge_lt hE rfl, ge_ly hE rfl rfl, by decide, rfl, rfl⟩
theorem ff_0_30_52 {E : EE} (hE : GE E) : FF E 0 30 52 6 1 := ⟨0, rfl, ge_lt hE rfl, ge_ly hE rfl rfl, by decide, rfl, rfl⟩
theorem ff_10_16_1 {E : EE} (hE : GE E) : FF E 10 16 1 1 1 := ⟨10, rfl, ge_lt hE rfl, ge_ly hE rfl rfl, by decide, rfl, rfl⟩
theorem ff_10_20_1 {E : EE} (hE : GE E) : FF E 10 20 1 2 1 := ⟨10, rfl, ge_lt hE rfl, ge_ly hE rfl rfl, by decide, rfl, rfl⟩
theorem ff_12_115_60 {E : EE} (hE : GE E) : FF E 12 115 60 1 1 := ⟨12, rfl, ge_lt hE rfl, ge_ly hE rfl rfl, by decide, rfl, rfl⟩
theorem ff_12_122_60 {E : EE} (hE : GE E) : FF E 12 122 60 6 1 := ⟨12, rfl, ge_lt hE rfl, ge_ly hE rfl rfl, by decide, rfl, rfl⟩
theorem ff_12_146_60 {E : EE} (hE : GE E) : FF E 12 146 60 12 1 := ⟨12, rfl, ge_lt hE rfl, ge_ly hE rfl rfl, by decide, rfl, rfl⟩
theorem ff_12_149_60 {E : EE} (hE : GE E) : FF E 12 149 60 11 1 := ⟨12, rfl, ge_lt hE rfl, ge_ly hE rfl rfl, by decide, rfl, rfl⟩
theorem ff_12_178_60 {E : EE} (hE : GE E) : FF E 12 178 60 18 1 := ⟨12, rfl, ge_lt hE rfl, ge_ly hE rfl rfl, by decide, rfl, rfl⟩
theorem ff_12_181_60 {E : EE} (hE : GE E) : FF E 12 181 60 19 1 := ⟨12, rfl, ge_lt hE rfl, ge_ly hE rfl rfl, by decide, rfl, rfl⟩
theorem ff_12_184_60 {E : EE} (hE : GE E) : FF E 12 184 60 20 1 := ⟨12, rfl, ge_lt hE rfl, ge_ly hE rfl rfl, by decide, rfl, rfl⟩
theorem ff_12_187_60 {E : EE} (hE : GE E) : FF E 12 187 60 22 1 := ⟨12, rfl, ge_lt hE rfl, ge_ly hE rfl rfl, by decide, rfl, rfl⟩
theorem ff_12_190_60 {E : EE} (hE : GE E) : FF E 12 190 60 21 1 := ⟨12, rfl, ge_lt hE rfl, ge_ly hE rfl rfl, by decide, rfl, rfl⟩
theorem ff_12_244_60 {E : EE} (hE : GE E) : FF E 12 244 60 30 3 := ⟨12, rfl, ge_lt hE rfl, ge_ly hE rfl rfl, by decide, rfl, rfl⟩
theorem ff_12_248_60 {E : EE} (hE : GE E) : FF E 12 248 60 32 1 := ⟨12, rfl, ge_lt hE rfl, ge_ly hE rfl rfl, by decide, rfl, rfl⟩
theorem ff_12_266_60 {E : EE} (hE : GE E) : FF E 12 266 60 33 1 := ⟨12, rfl, ge_lt hE rfl, ge_ly hE rfl rfl, by decide, rfl, rfl⟩
theorem ff_12_269_60 {E : EE} (hE : GE E) : FF E 12 269 60 34 1 := ⟨12, rfl, ge_lt hE rfl, ge_ly hE rfl rfl, by decide, rfl, rfl⟩
theorem ff_12_313_60 {E : EE} (hE : GE E) : FF E 12 313 60 37 1 := ⟨12, rfl, ge_lt hE rfl, ge_ly hE rfl rfl, by decide, rfl, rfl⟩
theorem ff_12_316_60 {E : EE} (hE : GE E) : FF E 12 316 60 39 1 := ⟨12, rfl, ge_lt hE rfl, ge_ly hE rfl rfl, by decide, rfl, rfl⟩
theorem ff_12_319_60 {E : EE} (hE : GE E) : FF E 12 319 60 42 1 := ⟨12, rfl, ge_lt hE rfl, ge_ly hE rfl rfl, by decide, rfl, rfl⟩
theorem ff_12_322_60 {E : EE} (hE : GE E) : FF E 12 322 60 40 1 := ⟨12, rfl, ge_lt hE rfl, ge_ly hE rfl rfl, by decide, rfl, rfl⟩
theorem ff_12_325_60 {E : EE} (hE : GE E) : FF E 12 325 60 41 1 := ⟨12, rfl, ge_lt hE rfl, ge_ly hE rfl rfl, by decide, rfl, rfl⟩
theorem ff_12_328_60 {E : EE} (hE : GE E) : FF E 12 328 60 43 2 := ⟨12, rfl, ge_lt hE rfl, ge_ly hE rfl rfl, by decide, rfl, rfl⟩
theorem ff_12_332_60 {E : EE} (hE : GE E) : FF E 12 332 60 44 1 := ⟨12, rfl, ge_lt hE rfl, ge_ly hE rfl rfl, by decide, rfl, rfl⟩
theorem ff_12_335_60 {E : EE} (hE : GE E) : FF E 12 335 60 38 1 := ⟨12, rfl, ge_lt hE rfl, ge_ly hE rfl rfl, by decide, rfl, rfl⟩
theorem ff_12_345_60 {E : EE} (hE : GE E) : FF E 12 345 60 36 1 := ⟨12, rfl, ge_lt hE rfl, ge_ly hE rfl rfl, by decide, rfl, rfl⟩
theorem ff_12_356_60 {E : EE} (hE : GE E) : FF E 12 356 60 46 3 := ⟨12, rfl, ge_lt hE rfl, ge_ly hE rfl rfl, by decide, rfl, rfl⟩
theorem ff_12_359_60 {E : EE} (hE : GE E) : FF E 12 359 60 47 1 := ⟨12, rfl, ge_lt hE rfl, ge_ly hE rfl rfl, by decide, rfl, rfl⟩
theorem ff_12_362_60 {E : EE} (hE : GE E) : FF E 12 362 60 48 1 := ⟨12, rfl, ge_lt hE rfl, ge_ly hE rfl rfl, by decide, rfl, rfl⟩
theorem ff_12_365_60 {E : EE} (hE : GE E) : FF E 12 365 60 52 1 := ⟨12, rfl, ge_lt hE rfl, ge_ly hE rfl rfl, by decide, rfl, rfl⟩
theorem ff_12_368_60 {E : EE} (hE : GE E) : FF E 12 368 60 54 1 := ⟨12, rfl, ge_lt hE rfl, ge_ly hE rfl rfl, by decide, rfl, rfl⟩
theorem ff_1_28_47 {E : EE} (hE : GE E) : FF E 1 28 47 7 3 := ⟨1, rfl, ge_lt hE rfl, ge_ly hE rfl rfl, by decide, rfl, rfl⟩
theorem ff_1_38_47 {E : EE} (hE : GE E) : FF E 1 38 47 5 1 := ⟨1, rfl, ge_lt hE rfl, ge_ly hE rfl rfl, by decide, rfl, rfl⟩
theorem ff_1_45_47 {E : EE} (hE : GE E) : FF E 1 45 47 6 1 := ⟨1, rfl, ge_lt hE rfl, ge_ly hE rfl rfl, by decide, rfl, rfl⟩
theorem ff_2_40_37 {E : EE} (hE : GE E) : FF E 2 40 37 3 1 := ⟨2, rfl, ge_lt hE rfl, ge_ly hE rfl rfl, by decide, rfl, rfl⟩
theorem ff_2_54_37 {E : EE} (hE : GE E) : FF E 2 54 37 4 1 := ⟨2, rfl, ge_lt hE rfl, ge_ly hE rfl rfl, by decide, rfl, rfl⟩
theorem ff_2_57_37 {E : EE} (hE : GE E) : FF E 2 57 37 5 1 := ⟨2, rfl, ge_lt hE rfl, ge_ly hE rfl rfl, by decide, rfl, rfl⟩
theorem ff_2_60_37 {E : EE} (hE : GE E) : FF E 2 60 37 6 2 := ⟨2, rfl, ge_lt hE rfl, ge_ly hE rfl rfl, by decide, rfl, rfl⟩
theorem ff_2_64_37 {E : EE} (hE : GE E) : FF E 2 64 37 7 2 := ⟨2, rfl, ge_lt hE rfl, ge_ly hE rfl rfl, by decide, rfl, rfl⟩
theorem ff_3_25_57 {E : EE} (hE : GE E) : FF E 3 25 57 2 1 := ⟨3, rfl, ge_lt hE rfl, ge_ly hE rfl rfl, by decide, rfl, rfl⟩
theorem ff_3_32_57 {E : EE} (hE : GE E) : FF E 3 32 57 3 1 := ⟨3, rfl, ge_lt hE rfl, ge_ly hE rfl rfl, by decide, rfl, rfl⟩
theorem ff_3_45_57 {E : EE} (hE : GE E) : FF E 3 45 57 4 1 := ⟨3, rfl, ge_lt hE rfl, ge_ly hE rfl rfl, by decide, rfl, rfl⟩
theorem ff_4_24_12 {E : EE} (hE : GE E) : FF E 4 24 12 4 1 := ⟨4, rfl, ge_lt hE rfl, ge_ly hE rfl rfl, by decide, rfl, rfl⟩
theorem ff_4_24_19 {E : EE} (hE : GE E) : FF E 4 24 19 4 1 := ⟨4, rfl, ge_lt hE rfl, ge_ly hE rfl rfl, by decide, rfl, rfl⟩
theorem ff_4_34_12 {E : EE} (hE : GE E) : FF E 4 34 12 5 1 := ⟨4, rfl, ge_lt hE rfl, ge_ly hE rfl rfl, by decide, rfl, rfl⟩
theorem ff_5_22_17 {E : EE} (hE : GE E) : FF E 5 22 17 2 1 := ⟨5, rfl, ge_lt hE rfl, ge_ly hE rfl rfl, by decide, rfl, rfl⟩
theorem ff_5_26_17 {E : EE} (hE : GE E) : FF E 5 26 17 3 1 := ⟨5, rfl, ge_lt hE rfl, ge_ly hE rfl rfl, by decide, rfl, rfl⟩
theorem ff_6_37_42 {E : EE} (hE : GE E) : FF E 6 37 42 6 1 := ⟨6, rfl, ge_lt hE rfl, ge_ly hE rfl rfl, by decide, rfl, rfl⟩
theorem ff_6_41_42 {E : EE} (hE : GE E) : FF E 6 41 42 7 1 := ⟨6, rfl, ge_lt hE rfl, ge_ly hE rfl rfl, by decide, rfl, rfl⟩
theorem ff_6_48_42 {E : EE} (hE : GE E) : FF E 6 48 42 8 1 := ⟨6, rfl, ge_lt hE rfl, ge_ly hE rfl rfl, by decide, rfl, rfl⟩
theorem ff_6_54_42 {E : EE} (hE : GE E) : FF E 6 54 42 9 1 := ⟨6, rfl, ge_lt hE rfl, ge_ly hE rfl rfl, by decide, rfl, rfl⟩
theorem ff_9_40_39 {E : EE} (hE : GE E) : FF E 9 40 39 5 3 := ⟨9, rfl, ge_lt hE rfl, ge_ly hE rfl rfl, by decide, rfl, rfl⟩
theorem ff_9_44_39 {E : EE} (hE : GE E) : FF E 9 44 39 6 1 := ⟨9, rfl, ge_lt hE rfl, ge_ly hE rfl rfl, by decide, rfl, rfl⟩
theorem ff_9_48_39 {E : EE} (hE : GE E) : FF E 9 48 39 7 1 := ⟨9, rfl, ge_lt hE rfl, ge_ly hE rfl rfl, by decide, rfl, rfl⟩
theorem ff_9_51_39 {E : EE} (hE : GE E) : FF E 9 51 39 8 1 := ⟨9, rfl, ge_lt hE rfl, ge_ly hE rfl rfl, by decide, rfl, rfl⟩
theorem ff_9_54_39 {E : EE} (hE : GE E) : FF E 9 54 39 9 1 := ⟨9, rfl, ge_lt hE rfl, ge_ly hE rfl rfl, by decide, rfl, rfl⟩
theorem ff_9_57_39 {E : EE} (hE : GE E) : FF E 9 57 39 10 2 := ⟨9, rfl, ge_lt hE rfl, ge_ly hE rfl rfl, by decide, rfl, rfl⟩
theorem ff_9_61_39 {E : EE} (hE : GE E) : FF E 9 61 39 11 1 := ⟨9, rfl, ge_lt hE rfl, ge_ly hE rfl rfl, by decide, rfl, rfl⟩
theorem ob_0 {E : EE} (hE : GE E) : OB E 0 11 := ⟨ge_lt hE rfl, ge_ly hE rfl rfl⟩
theorem ob_1 {E : EE} (hE : GE E) : OB E 1 10 := ⟨ge_lt hE rfl, ge_ly hE rfl rfl⟩
theorem ob_12 {E : EE} (hE : GE E) : OB E 12 4 := ⟨ge_lt hE rfl, ge_ly hE rfl rfl⟩
theorem ob_17 {E : EE} (hE : GE E) : OB E 17 5 := ⟨ge_lt hE rfl, ge_ly hE rfl rfl⟩
theorem ob_19 {E : EE} (hE : GE E) : OB E 19 4 := ⟨ge_lt hE rfl, ge_ly hE rfl rfl⟩
theorem ob_24 {E : EE} (hE : GE E) : OB E 24 8 := ⟨ge_lt hE rfl, ge_ly hE rfl rfl⟩
theorem ob_26 {E : EE} (hE : GE E) : OB E 26 7 := ⟨ge_lt hE rfl, ge_ly hE rfl rfl⟩
theorem ob_37 {E : EE} (hE : GE E) : OB E 37 2 := ⟨ge_lt hE rfl, ge_ly hE rfl rfl⟩
theorem ob_39 {E : EE} (hE : GE E) : OB E 39 9 := ⟨ge_lt hE rfl, ge_ly hE rfl rfl⟩
theorem ob_42 {E : EE} (hE : GE E) : OB E 42 6 := ⟨ge_lt hE rfl, ge_ly hE rfl rfl⟩
theorem ob_47 {E : EE} (hE : GE E) : OB E 47 1 := ⟨ge_lt hE rfl, ge_ly hE rfl rfl⟩
theorem ob_52 {E : EE} (hE : GE E) : OB E 52 0 := ⟨ge_lt hE rfl, ge_ly hE rfl rfl⟩
theorem ob_57 {E : EE} (hE : GE E) : OB E 57 3 := ⟨ge_lt hE rfl, ge_ly hE rfl rfl⟩
theorem ob_60 {E : EE} (hE : GE E) : OB E 60 12 := ⟨ge_lt hE rfl, ge_ly hE rfl rfl⟩
theorem rv_2 {E : EE} (hE : GE E) : ∀ j, j < 9 → prv E.2.2 2 j = some (3 + j) := fun j hj => by
  have : j = 0 ∨ j = 1 ∨ j = 2 ∨ j = 3 ∨ j = 4 ∨ j = 5 ∨ j = 6 ∨ j = 7 ∨ j = 8 := by omega
  rcases this with rfl | rfl | rfl | rfl | rfl | rfl | rfl | rfl | rfl
  · exact ge_rv hE (q := (2, 0, 3)) (by decide +kernel)
  · exact ge_rv hE (q := (2, 1, 4)) (by decide +kernel)
  · exact ge_rv hE (q := (2, 2, 5)) (by decide +kernel)
  · exact ge_rv hE (q := (2, 3, 6)) (by decide +kernel)
  · exact ge_rv hE (q := (2, 4, 7)) (by decide +kernel)
  · exact ge_rv hE (q := (2, 5, 8)) (by decide +kernel)
  · exact ge_rv hE (q := (2, 6, 9)) (by decide +kernel)
  · exact ge_rv hE (q := (2, 7, 10)) (by decide +kernel)
  · exact ge_rv hE (q := (2, 8, 11)) (by decide +kernel)
theorem rv_30 {E : EE} (hE : GE E) : ∀ j, j < 6 → prv E.2.2 30 j = some (31 + j) := fun j hj => by
  have : j = 0 ∨ j = 1 ∨ j = 2 ∨ j = 3 ∨ j = 4 ∨ j = 5 := by omega
  rcases this with rfl | rfl | rfl | rfl | rfl | rfl
  · exact ge_rv hE (q := (30, 0, 31)) (by decide +kernel)
  · exact ge_rv hE (q := (30, 1, 32)) (by decide +kernel)
  · exact ge_rv hE (q := (30, 2, 33)) (by decide +kernel)
  · exact ge_rv hE (q := (30, 3, 34)) (by decide +kernel)
  · exact ge_rv hE (q := (30, 4, 35)) (by decide +kernel)
  · exact ge_rv hE (q := (30, 5, 36)) (by decide +kernel)
