theorem k_0 : 0 < zN := Nat.le_of_ble_eq_true rfl
theorem z_0 : zsh 0 = (0, 11, 0) := by decide +kernel
theorem r_0_0 : zref 0 0 = some 1 := by decide +kernel
theorem r_0_1 : zref 0 1 = some 3 := by decide +kernel
theorem r_0_2 : zref 0 2 = some 16 := by decide +kernel
theorem r_0_3 : zref 0 3 = some 25 := by decide +kernel
theorem r_0_4 : zref 0 4 = some 26 := by decide +kernel
theorem r_0_5 : zref 0 5 = some 35 := by decide +kernel
theorem r_0_6 : zref 0 6 = some 44 := by decide +kernel
theorem r_0_7 : zref 0 7 = some 45 := by decide +kernel
theorem r_0_9 : zref 0 9 = some 46 := by decide +kernel
theorem r_0_11 : zref 0 11 = some 95 := by decide +kernel
theorem r_0_12 : zref 0 12 = some 114 := by decide +kernel
theorem r_0_13 : zref 0 13 = some 131 := by decide +kernel
theorem r_0_14 : zref 0 14 = some 147 := by decide +kernel
theorem r_0_15 : zref 0 15 = some 163 := by decide +kernel
theorem r_0_16 : zref 0 16 = some 164 := by decide +kernel
theorem r_0_17 : zref 0 17 = some 165 := by decide +kernel
theorem k_1 : 1 < zN := Nat.le_of_ble_eq_true rfl
theorem z_1 : zsh 1 = (0, 9, 0) := by decide +kernel
theorem r_1_4 : zref 1 4 = some 2 := by decide +kernel
theorem k_2 : 2 < zN := Nat.le_of_ble_eq_true rfl
theorem z_2 : zsh 2 = (1, 0, 6) := by decide +kernel
theorem k_3 : 3 < zN := Nat.le_of_ble_eq_true rfl
theorem z_3 : zsh 3 = (3, 4, 6) := by decide +kernel
theorem k_4 : 4 < zN := Nat.le_of_ble_eq_true rfl
theorem z_4 : zsh 4 = (0, 8, 0) := by decide +kernel
theorem r_4_1 : zref 4 1 = some 5 := by decide +kernel
theorem k_5 : 5 < zN := Nat.le_of_ble_eq_true rfl
theorem z_5 : zsh 5 = (1, 0, 40) := by decide +kernel
theorem k_6 : 6 < zN := Nat.le_of_ble_eq_true rfl
theorem z_6 : zsh 6 = (0, 8, 0) := by decide +kernel
theorem r_6_1 : zref 6 1 = some 7 := by decide +kernel
theorem k_7 : 7 < zN := Nat.le_of_ble_eq_true rfl
theorem z_7 : zsh 7 = (1, 0, 40) := by decide +kernel
theorem k_8 : 8 < zN := Nat.le_of_ble_eq_true rfl
theorem z_8 : zsh 8 = (0, 8, 0) := by decide +kernel
theorem r_8_1 : zref 8 1 = some 9 := by decide +kernel
theorem k_9 : 9 < zN := Nat.le_of_ble_eq_true rfl
theorem z_9 : zsh 9 = (1, 0, 40) := by decide +kernel
theorem k_10 : 10 < zN := Nat.le_of_ble_eq_true rfl
theorem z_10 : zsh 10 = (0, 8, 0) := by decide +kernel
theorem r_10_1 : zref 10 1 = some 11 := by decide +kernel
theorem k_11 : 11 < zN := Nat.le_of_ble_eq_true rfl
theorem z_11 : zsh 11 = (1, 0, 40) := by decide +kernel
theorem k_12 : 12 < zN := Nat.le_of_ble_eq_true rfl
theorem z_12 : zsh 12 = (0, 8, 0) := by decide +kernel
theorem r_12_1 : zref 12 1 = some 13 := by decide +kernel
theorem k_13 : 13 < zN := Nat.le_of_ble_eq_true rfl
theorem z_13 : zsh 13 = (1, 0, 40) := by decide +kernel
theorem k_14 : 14 < zN := Nat.le_of_ble_eq_true rfl
theorem z_14 : zsh 14 = (0, 8, 0) := by decide +kernel
theorem r_14_1 : zref 14 1 = some 15 := by decide +kernel
theorem k_15 : 15 < zN := Nat.le_of_ble_eq_true rfl
theorem z_15 : zsh 15 = (1, 0, 40) := by decide +kernel
theorem k_16 : 16 < zN := Nat.le_of_ble_eq_true rfl
theorem z_16 : zsh 16 = (3, 4, 4) := by decide +kernel
theorem k_17 : 17 < zN := Nat.le_of_ble_eq_true rfl
theorem z_17 : zsh 17 = (0, 8, 0) := by decide +kernel
theorem r_17_1 : zref 17 1 = some 18 := by decide +kernel
theorem k_18 : 18 < zN := Nat.le_of_ble_eq_true rfl
theorem z_18 : zsh 18 = (1, 0, 80) := by decide +kernel
theorem k_19 : 19 < zN := Nat.le_of_ble_eq_true rfl
theorem z_19 : zsh 19 = (0, 8, 0) := by decide +kernel
theorem r_19_1 : zref 19 1 = some 20 := by decide +kernel
theorem k_20 : 20 < zN := Nat.le_of_ble_eq_true rfl
theorem z_20 : zsh 20 = (1, 0, 80) := by decide +kernel
theorem k_21 : 21 < zN := Nat.le_of_ble_eq_true rfl
theorem z_21 : zsh 21 = (0, 8, 0) := by decide +kernel
theorem r_21_1 : zref 21 1 = some 22 := by decide +kernel
theorem k_22 : 22 < zN := Nat.le_of_ble_eq_true rfl
theorem z_22 : zsh 22 = (1, 0, 80) := by decide +kernel
theorem k_23 : 23 < zN := Nat.le_of_ble_eq_true rfl
theorem z_23 : zsh 23 = (0, 8, 0) := by decide +kernel
theorem r_23_1 : zref 23 1 = some 24 := by decide +kernel
theorem k_24 : 24 < zN := Nat.le_of_ble_eq_true rfl
theorem z_24 : zsh 24 = (1, 0, 80) := by decide +kernel
theorem k_25 : 25 < zN := Nat.le_of_ble_eq_true rfl
theorem z_25 : zsh 25 = (0, 7, 0) := by decide +kernel
theorem k_26 : 26 < zN := Nat.le_of_ble_eq_true rfl
theorem z_26 : zsh 26 = (0, 2, 0) := by decide +kernel
theorem r_26_3 : zref 26 3 = some 27 := by decide +kernel
theorem r_26_4 : zref 26 4 = some 28 := by decide +kernel
theorem r_26_5 : zref 26 5 = some 29 := by decide +kernel
theorem r_26_6 : zref 26 6 = some 30 := by decide +kernel
theorem r_26_7 : zref 26 7 = some 31 := by decide +kernel
theorem r_26_8 : zref 26 8 = some 32 := by decide +kernel
theorem r_26_9 : zref 26 9 = some 33 := by decide +kernel
theorem r_26_10 : zref 26 10 = some 34 := by decide +kernel
theorem k_27 : 27 < zN := Nat.le_of_ble_eq_true rfl
theorem z_27 : zsh 27 = (1, 0, 2) := by decide +kernel
theorem k_28 : 28 < zN := Nat.le_of_ble_eq_true rfl
theorem z_28 : zsh 28 = (1, 0, 6) := by decide +kernel
theorem k_29 : 29 < zN := Nat.le_of_ble_eq_true rfl
theorem z_29 : zsh 29 = (1, 0, 6) := by decide +kernel
theorem k_30 : 30 < zN := Nat.le_of_ble_eq_true rfl
theorem z_30 : zsh 30 = (1, 0, 6) := by decide +kernel
theorem k_31 : 31 < zN := Nat.le_of_ble_eq_true rfl
theorem z_31 : zsh 31 = (1, 0, 6) := by decide +kernel
theorem k_32 : 32 < zN := Nat.le_of_ble_eq_true rfl
theorem z_32 : zsh 32 = (1, 0, 6) := by decide +kernel
theorem k_33 : 33 < zN := Nat.le_of_ble_eq_true rfl
theorem z_33 : zsh 33 = (1, 0, 6) := by decide +kernel
theorem k_34 : 34 < zN := Nat.le_of_ble_eq_true rfl
theorem z_34 : zsh 34 = (1, 0, 6) := by decide +kernel
theorem k_35 : 35 < zN := Nat.le_of_ble_eq_true rfl
theorem z_35 : zsh 35 = (0, 2, 0) := by decide +kernel
theorem r_35_3 : zref 35 3 = some 36 := by decide +kernel
theorem r_35_4 : zref 35 4 = some 37 := by decide +kernel
theorem r_35_5 : zref 35 5 = some 38 := by decide +kernel
theorem r_35_6 : zref 35 6 = some 39 := by decide +kernel
theorem r_35_7 : zref 35 7 = some 40 := by decide +kernel
theorem r_35_8 : zref 35 8 = some 41 := by decide +kernel
theorem r_35_9 : zref 35 9 = some 42 := by decide +kernel
theorem r_35_10 : zref 35 10 = some 43 := by decide +kernel
theorem k_36 : 36 < zN := Nat.le_of_ble_eq_true rfl
theorem z_36 : zsh 36 = (1, 0, 2) := by decide +kernel
theorem k_37 : 37 < zN := Nat.le_of_ble_eq_true rfl
theorem z_37 : zsh 37 = (1, 0, 6) := by decide +kernel
theorem k_38 : 38 < zN := Nat.le_of_ble_eq_true rfl
theorem z_38 : zsh 38 = (1, 0, 6) := by decide +kernel
theorem k_39 : 39 < zN := Nat.le_of_ble_eq_true rfl
theorem z_39 : zsh 39 = (1, 0, 6) := by decide +kernel
theorem k_40 : 40 < zN := Nat.le_of_ble_eq_true rfl
theorem z_40 : zsh 40 = (1, 0, 6) := by decide +kernel
theorem k_41 : 41 < zN := Nat.le_of_ble_eq_true rfl
theorem z_41 : zsh 41 = (1, 0, 6) := by decide +kernel
theorem k_42 : 42 < zN := Nat.le_of_ble_eq_true rfl
theorem z_42 : zsh 42 = (1, 0, 6) := by decide +kernel
theorem k_43 : 43 < zN := Nat.le_of_ble_eq_true rfl
theorem z_43 : zsh 43 = (1, 0, 6) := by decide +kernel
theorem k_44 : 44 < zN := Nat.le_of_ble_eq_true rfl
theorem z_44 : zsh 44 = (0, 3, 0) := by decide +kernel
theorem k_45 : 45 < zN := Nat.le_of_ble_eq_true rfl
theorem z_45 : zsh 45 = (0, 3, 0) := by decide +kernel
theorem k_46 : 46 < zN := Nat.le_of_ble_eq_true rfl
theorem z_46 : zsh 46 = (3, 5, 12) := by decide +kernel
theorem k_47 : 47 < zN := Nat.le_of_ble_eq_true rfl
theorem z_47 : zsh 47 = (0, 5, 0) := by decide +kernel
theorem r_47_0 : zref 47 0 = some 48 := by decide +kernel
theorem r_47_1 : zref 47 1 = some 49 := by decide +kernel
theorem r_47_2 : zref 47 2 = some 50 := by decide +kernel
theorem k_48 : 48 < zN := Nat.le_of_ble_eq_true rfl
theorem z_48 : zsh 48 = (1, 0, 6) := by decide +kernel
theorem k_49 : 49 < zN := Nat.le_of_ble_eq_true rfl
theorem z_49 : zsh 49 = (0, 1, 0) := by decide +kernel
theorem k_50 : 50 < zN := Nat.le_of_ble_eq_true rfl
theorem z_50 : zsh 50 = (0, 1, 0) := by decide +kernel
theorem k_51 : 51 < zN := Nat.le_of_ble_eq_true rfl
theorem z_51 : zsh 51 = (0, 5, 0) := by decide +kernel
theorem r_51_0 : zref 51 0 = some 52 := by decide +kernel
theorem r_51_1 : zref 51 1 = some 53 := by decide +kernel
theorem r_51_2 : zref 51 2 = some 54 := by decide +kernel
theorem k_52 : 52 < zN := Nat.le_of_ble_eq_true rfl
theorem z_52 : zsh 52 = (1, 0, 6) := by decide +kernel
theorem k_53 : 53 < zN := Nat.le_of_ble_eq_true rfl
theorem z_53 : zsh 53 = (0, 1, 0) := by decide +kernel
theorem k_54 : 54 < zN := Nat.le_of_ble_eq_true rfl
theorem z_54 : zsh 54 = (0, 1, 0) := by decide +kernel
theorem k_55 : 55 < zN := Nat.le_of_ble_eq_true rfl
theorem z_55 : zsh 55 = (0, 5, 0) := by decide +kernel
theorem r_55_0 : zref 55 0 = some 56 := by decide +kernel
theorem r_55_1 : zref 55 1 = some 57 := by decide +kernel
theorem r_55_2 : zref 55 2 = some 58 := by decide +kernel
theorem k_56 : 56 < zN := Nat.le_of_ble_eq_true rfl
theorem z_56 : zsh 56 = (1, 0, 6) := by decide +kernel
theorem k_57 : 57 < zN := Nat.le_of_ble_eq_true rfl
theorem z_57 : zsh 57 = (0, 1, 0) := by decide +kernel
theorem k_58 : 58 < zN := Nat.le_of_ble_eq_true rfl
theorem z_58 : zsh 58 = (0, 1, 0) := by decide +kernel
theorem k_59 : 59 < zN := Nat.le_of_ble_eq_true rfl
theorem z_59 : zsh 59 = (0, 5, 0) := by decide +kernel
theorem r_59_0 : zref 59 0 = some 60 := by decide +kernel
theorem r_59_1 : zref 59 1 = some 61 := by decide +kernel
theorem r_59_2 : zref 59 2 = some 62 := by decide +kernel
theorem k_60 : 60 < zN := Nat.le_of_ble_eq_true rfl
theorem z_60 : zsh 60 = (1, 0, 6) := by decide +kernel
theorem k_61 : 61 < zN := Nat.le_of_ble_eq_true rfl
theorem z_61 : zsh 61 = (0, 1, 0) := by decide +kernel
theorem k_62 : 62 < zN := Nat.le_of_ble_eq_true rfl
theorem z_62 : zsh 62 = (0, 1, 0) := by decide +kernel
theorem k_63 : 63 < zN := Nat.le_of_ble_eq_true rfl
theorem z_63 : zsh 63 = (0, 5, 0) := by decide +kernel
theorem r_63_0 : zref 63 0 = some 64 := by decide +kernel
theorem r_63_1 : zref 63 1 = some 65 := by decide +kernel
theorem r_63_2 : zref 63 2 = some 66 := by decide +kernel
theorem k_64 : 64 < zN := Nat.le_of_ble_eq_true rfl
theorem z_64 : zsh 64 = (1, 0, 6) := by decide +kernel
theorem k_65 : 65 < zN := Nat.le_of_ble_eq_true rfl
theorem z_65 : zsh 65 = (0, 1, 0) := by decide +kernel
theorem k_66 : 66 < zN := Nat.le_of_ble_eq_true rfl
theorem z_66 : zsh 66 = (0, 1, 0) := by decide +kernel
theorem k_67 : 67 < zN := Nat.le_of_ble_eq_true rfl
theorem z_67 : zsh 67 = (0, 5, 0) := by decide +kernel
theorem r_67_0 : zref 67 0 = some 68 := by decide +kernel
theorem r_67_1 : zref 67 1 = some 69 := by decide +kernel
theorem r_67_2 : zref 67 2 = some 70 := by decide +kernel
theorem k_68 : 68 < zN := Nat.le_of_ble_eq_true rfl
theorem z_68 : zsh 68 = (1, 0, 6) := by decide +kernel
theorem k_69 : 69 < zN := Nat.le_of_ble_eq_true rfl
theorem z_69 : zsh 69 = (0, 1, 0) := by decide +kernel
theorem k_70 : 70 < zN := Nat.le_of_ble_eq_true rfl
theorem z_70 : zsh 70 = (0, 1, 0) := by decide +kernel
theorem k_71 : 71 < zN := Nat.le_of_ble_eq_true rfl
theorem z_71 : zsh 71 = (0, 5, 0) := by decide +kernel
theorem r_71_0 : zref 71 0 = some 72 := by decide +kernel
theorem r_71_1 : zref 71 1 = some 73 := by decide +kernel
theorem r_71_2 : zref 71 2 = some 74 := by decide +kernel
theorem k_72 : 72 < zN := Nat.le_of_ble_eq_true rfl
theorem z_72 : zsh 72 = (1, 0, 6) := by decide +kernel
theorem k_73 : 73 < zN := Nat.le_of_ble_eq_true rfl
theorem z_73 : zsh 73 = (0, 1, 0) := by decide +kernel
theorem k_74 : 74 < zN := Nat.le_of_ble_eq_true rfl
theorem z_74 : zsh 74 = (0, 1, 0) := by decide +kernel
theorem k_75 : 75 < zN := Nat.le_of_ble_eq_true rfl
theorem z_75 : zsh 75 = (0, 5, 0) := by decide +kernel
theorem r_75_0 : zref 75 0 = some 76 := by decide +kernel
theorem r_75_1 : zref 75 1 = some 77 := by decide +kernel
theorem r_75_2 : zref 75 2 = some 78 := by decide +kernel
theorem k_76 : 76 < zN := Nat.le_of_ble_eq_true rfl
theorem z_76 : zsh 76 = (1, 0, 6) := by decide +kernel
theorem k_77 : 77 < zN := Nat.le_of_ble_eq_true rfl
theorem z_77 : zsh 77 = (0, 1, 0) := by decide +kernel
theorem k_78 : 78 < zN := Nat.le_of_ble_eq_true rfl
theorem z_78 : zsh 78 = (0, 1, 0) := by decide +kernel
theorem k_79 : 79 < zN := Nat.le_of_ble_eq_true rfl
theorem z_79 : zsh 79 = (0, 5, 0) := by decide +kernel
theorem r_79_0 : zref 79 0 = some 80 := by decide +kernel
theorem r_79_1 : zref 79 1 = some 81 := by decide +kernel
theorem r_79_2 : zref 79 2 = some 82 := by decide +kernel
theorem k_80 : 80 < zN := Nat.le_of_ble_eq_true rfl
theorem z_80 : zsh 80 = (1, 0, 6) := by decide +kernel
theorem k_81 : 81 < zN := Nat.le_of_ble_eq_true rfl
theorem z_81 : zsh 81 = (0, 1, 0) := by decide +kernel
theorem k_82 : 82 < zN := Nat.le_of_ble_eq_true rfl
theorem z_82 : zsh 82 = (0, 1, 0) := by decide +kernel
theorem k_83 : 83 < zN := Nat.le_of_ble_eq_true rfl
theorem z_83 : zsh 83 = (0, 5, 0) := by decide +kernel
theorem r_83_0 : zref 83 0 = some 84 := by decide +kernel
theorem r_83_1 : zref 83 1 = some 85 := by decide +kernel
theorem r_83_2 : zref 83 2 = some 86 := by decide +kernel
theorem k_84 : 84 < zN := Nat.le_of_ble_eq_true rfl
theorem z_84 : zsh 84 = (1, 0, 6) := by decide +kernel
theorem k_85 : 85 < zN := Nat.le_of_ble_eq_true rfl
theorem z_85 : zsh 85 = (0, 1, 0) := by decide +kernel
theorem k_86 : 86 < zN := Nat.le_of_ble_eq_true rfl
theorem z_86 : zsh 86 = (0, 1, 0) := by decide +kernel
theorem k_87 : 87 < zN := Nat.le_of_ble_eq_true rfl
theorem z_87 : zsh 87 = (0, 5, 0) := by decide +kernel
theorem r_87_0 : zref 87 0 = some 88 := by decide +kernel
theorem r_87_1 : zref 87 1 = some 89 := by decide +kernel
theorem r_87_2 : zref 87 2 = some 90 := by decide +kernel
theorem k_88 : 88 < zN := Nat.le_of_ble_eq_true rfl
theorem z_88 : zsh 88 = (1, 0, 6) := by decide +kernel
theorem k_89 : 89 < zN := Nat.le_of_ble_eq_true rfl
theorem z_89 : zsh 89 = (0, 1, 0) := by decide +kernel
theorem k_90 : 90 < zN := Nat.le_of_ble_eq_true rfl
theorem z_90 : zsh 90 = (0, 1, 0) := by decide +kernel
theorem k_91 : 91 < zN := Nat.le_of_ble_eq_true rfl
theorem z_91 : zsh 91 = (0, 5, 0) := by decide +kernel
theorem r_91_0 : zref 91 0 = some 92 := by decide +kernel
theorem r_91_1 : zref 91 1 = some 93 := by decide +kernel
theorem r_91_2 : zref 91 2 = some 94 := by decide +kernel
theorem k_92 : 92 < zN := Nat.le_of_ble_eq_true rfl
theorem z_92 : zsh 92 = (1, 0, 6) := by decide +kernel
theorem k_93 : 93 < zN := Nat.le_of_ble_eq_true rfl
theorem z_93 : zsh 93 = (0, 1, 0) := by decide +kernel
theorem k_94 : 94 < zN := Nat.le_of_ble_eq_true rfl
theorem z_94 : zsh 94 = (0, 1, 0) := by decide +kernel
theorem k_95 : 95 < zN := Nat.le_of_ble_eq_true rfl
theorem z_95 : zsh 95 = (3, 6, 6) := by decide +kernel
theorem k_96 : 96 < zN := Nat.le_of_ble_eq_true rfl
theorem z_96 : zsh 96 = (0, 0, 0) := by decide +kernel
theorem r_96_0 : zref 96 0 = some 97 := by decide +kernel
theorem r_96_1 : zref 96 1 = some 98 := by decide +kernel
theorem k_97 : 97 < zN := Nat.le_of_ble_eq_true rfl
theorem z_97 : zsh 97 = (0, 1, 0) := by decide +kernel
theorem k_98 : 98 < zN := Nat.le_of_ble_eq_true rfl
theorem z_98 : zsh 98 = (0, 1, 0) := by decide +kernel
theorem k_99 : 99 < zN := Nat.le_of_ble_eq_true rfl
theorem z_99 : zsh 99 = (0, 0, 0) := by decide +kernel
theorem r_99_0 : zref 99 0 = some 100 := by decide +kernel
theorem r_99_1 : zref 99 1 = some 101 := by decide +kernel
theorem k_100 : 100 < zN := Nat.le_of_ble_eq_true rfl
theorem z_100 : zsh 100 = (0, 1, 0) := by decide +kernel
theorem k_101 : 101 < zN := Nat.le_of_ble_eq_true rfl
theorem z_101 : zsh 101 = (0, 1, 0) := by decide +kernel
theorem k_102 : 102 < zN := Nat.le_of_ble_eq_true rfl
theorem z_102 : zsh 102 = (0, 0, 0) := by decide +kernel
theorem r_102_0 : zref 102 0 = some 103 := by decide +kernel
theorem r_102_1 : zref 102 1 = some 104 := by decide +kernel
theorem k_103 : 103 < zN := Nat.le_of_ble_eq_true rfl
theorem z_103 : zsh 103 = (0, 1, 0) := by decide +kernel
theorem k_104 : 104 < zN := Nat.le_of_ble_eq_true rfl
theorem z_104 : zsh 104 = (0, 1, 0) := by decide +kernel
theorem k_105 : 105 < zN := Nat.le_of_ble_eq_true rfl
theorem z_105 : zsh 105 = (0, 0, 0) := by decide +kernel
theorem r_105_0 : zref 105 0 = some 106 := by decide +kernel
theorem r_105_1 : zref 105 1 = some 107 := by decide +kernel
theorem k_106 : 106 < zN := Nat.le_of_ble_eq_true rfl
theorem z_106 : zsh 106 = (0, 1, 0) := by decide +kernel
theorem k_107 : 107 < zN := Nat.le_of_ble_eq_true rfl
theorem z_107 : zsh 107 = (0, 1, 0) := by decide +kernel
theorem k_108 : 108 < zN := Nat.le_of_ble_eq_true rfl
theorem z_108 : zsh 108 = (0, 0, 0) := by decide +kernel
theorem r_108_0 : zref 108 0 = some 109 := by decide +kernel
theorem r_108_1 : zref 108 1 = some 110 := by decide +kernel
theorem k_109 : 109 < zN := Nat.le_of_ble_eq_true rfl
theorem z_109 : zsh 109 = (0, 1, 0) := by decide +kernel
theorem k_110 : 110 < zN := Nat.le_of_ble_eq_true rfl
theorem z_110 : zsh 110 = (0, 1, 0) := by decide +kernel
theorem k_111 : 111 < zN := Nat.le_of_ble_eq_true rfl
theorem z_111 : zsh 111 = (0, 0, 0) := by decide +kernel
theorem r_111_0 : zref 111 0 = some 112 := by decide +kernel
theorem r_111_1 : zref 111 1 = some 113 := by decide +kernel
theorem k_112 : 112 < zN := Nat.le_of_ble_eq_true rfl
theorem z_112 : zsh 112 = (0, 1, 0) := by decide +kernel
theorem k_113 : 113 < zN := Nat.le_of_ble_eq_true rfl
theorem z_113 : zsh 113 = (0, 1, 0) := by decide +kernel
theorem k_114 : 114 < zN := Nat.le_of_ble_eq_true rfl
theorem z_114 : zsh 114 = (0, 4, 0) := by decide +kernel
theorem r_114_1 : zref 114 1 = some 115 := by decide +kernel
theorem r_114_3 : zref 114 3 = some 124 := by decide +kernel
theorem r_114_4 : zref 114 4 = some 125 := by decide +kernel
theorem r_114_5 : zref 114 5 = some 126 := by decide +kernel
theorem r_114_6 : zref 114 6 = some 127 := by decide +kernel
theorem r_114_7 : zref 114 7 = some 128 := by decide +kernel
theorem r_114_8 : zref 114 8 = some 129 := by decide +kernel
theorem r_114_10 : zref 114 10 = some 130 := by decide +kernel
theorem k_115 : 115 < zN := Nat.le_of_ble_eq_true rfl
theorem z_115 : zsh 115 = (3, 7, 8) := by decide +kernel
theorem k_116 : 116 < zN := Nat.le_of_ble_eq_true rfl
theorem z_116 : zsh 116 = (1, 0, 3) := by decide +kernel
theorem k_117 : 117 < zN := Nat.le_of_ble_eq_true rfl
theorem z_117 : zsh 117 = (1, 0, 3) := by decide +kernel
theorem k_118 : 118 < zN := Nat.le_of_ble_eq_true rfl
theorem z_118 : zsh 118 = (1, 0, 3) := by decide +kernel
theorem k_119 : 119 < zN := Nat.le_of_ble_eq_true rfl
theorem z_119 : zsh 119 = (1, 0, 3) := by decide +kernel
theorem k_120 : 120 < zN := Nat.le_of_ble_eq_true rfl
theorem z_120 : zsh 120 = (1, 0, 3) := by decide +kernel
theorem k_121 : 121 < zN := Nat.le_of_ble_eq_true rfl
theorem z_121 : zsh 121 = (1, 0, 3) := by decide +kernel
theorem k_122 : 122 < zN := Nat.le_of_ble_eq_true rfl
theorem z_122 : zsh 122 = (1, 0, 3) := by decide +kernel
theorem k_123 : 123 < zN := Nat.le_of_ble_eq_true rfl
theorem z_123 : zsh 123 = (1, 0, 3) := by decide +kernel
theorem k_124 : 124 < zN := Nat.le_of_ble_eq_true rfl
theorem z_124 : zsh 124 = (1, 0, 24) := by decide +kernel
theorem k_125 : 125 < zN := Nat.le_of_ble_eq_true rfl
theorem z_125 : zsh 125 = (1, 0, 24) := by decide +kernel
theorem k_126 : 126 < zN := Nat.le_of_ble_eq_true rfl
theorem z_126 : zsh 126 = (1, 0, 24) := by decide +kernel
theorem k_127 : 127 < zN := Nat.le_of_ble_eq_true rfl
theorem z_127 : zsh 127 = (1, 0, 6) := by decide +kernel
theorem k_128 : 128 < zN := Nat.le_of_ble_eq_true rfl
theorem z_128 : zsh 128 = (1, 0, 6) := by decide +kernel
theorem k_129 : 129 < zN := Nat.le_of_ble_eq_true rfl
theorem z_129 : zsh 129 = (1, 0, 6) := by decide +kernel
theorem k_130 : 130 < zN := Nat.le_of_ble_eq_true rfl
theorem z_130 : zsh 130 = (1, 0, 27) := by decide +kernel
theorem k_131 : 131 < zN := Nat.le_of_ble_eq_true rfl
theorem z_131 : zsh 131 = (0, 6, 0) := by decide +kernel
theorem r_131_2 : zref 131 2 = some 132 := by decide +kernel
theorem r_131_3 : zref 131 3 = some 133 := by decide +kernel
theorem r_131_4 : zref 131 4 = some 134 := by decide +kernel
theorem r_131_5 : zref 131 5 = some 135 := by decide +kernel
theorem r_131_6 : zref 131 6 = some 136 := by decide +kernel
theorem r_131_7 : zref 131 7 = some 137 := by decide +kernel
theorem r_131_8 : zref 131 8 = some 138 := by decide +kernel
theorem r_131_9 : zref 131 9 = some 139 := by decide +kernel
theorem r_131_10 : zref 131 10 = some 140 := by decide +kernel
theorem r_131_11 : zref 131 11 = some 141 := by decide +kernel
theorem r_131_12 : zref 131 12 = some 142 := by decide +kernel
theorem r_131_13 : zref 131 13 = some 143 := by decide +kernel
theorem r_131_14 : zref 131 14 = some 144 := by decide +kernel
theorem r_131_15 : zref 131 15 = some 145 := by decide +kernel
theorem r_131_16 : zref 131 16 = some 146 := by decide +kernel
theorem k_132 : 132 < zN := Nat.le_of_ble_eq_true rfl
theorem z_132 : zsh 132 = (1, 0, 6) := by decide +kernel
theorem k_133 : 133 < zN := Nat.le_of_ble_eq_true rfl
theorem z_133 : zsh 133 = (1, 0, 6) := by decide +kernel
theorem k_134 : 134 < zN := Nat.le_of_ble_eq_true rfl
theorem z_134 : zsh 134 = (1, 1, 4096) := by decide +kernel
theorem k_135 : 135 < zN := Nat.le_of_ble_eq_true rfl
theorem z_135 : zsh 135 = (2, 3, 4096) := by decide +kernel
theorem k_136 : 136 < zN := Nat.le_of_ble_eq_true rfl
theorem z_136 : zsh 136 = (2, 3, 4096) := by decide +kernel
theorem k_137 : 137 < zN := Nat.le_of_ble_eq_true rfl
theorem z_137 : zsh 137 = (2, 3, 4096) := by decide +kernel
theorem k_138 : 138 < zN := Nat.le_of_ble_eq_true rfl
theorem z_138 : zsh 138 = (2, 3, 4096) := by decide +kernel
theorem k_139 : 139 < zN := Nat.le_of_ble_eq_true rfl
theorem z_139 : zsh 139 = (1, 0, 6) := by decide +kernel
theorem k_140 : 140 < zN := Nat.le_of_ble_eq_true rfl
theorem z_140 : zsh 140 = (1, 1, 750) := by decide +kernel
theorem k_141 : 141 < zN := Nat.le_of_ble_eq_true rfl
theorem z_141 : zsh 141 = (2, 3, 750) := by decide +kernel
theorem k_142 : 142 < zN := Nat.le_of_ble_eq_true rfl
theorem z_142 : zsh 142 = (2, 3, 750) := by decide +kernel
theorem k_143 : 143 < zN := Nat.le_of_ble_eq_true rfl
theorem z_143 : zsh 143 = (2, 3, 125) := by decide +kernel
theorem k_144 : 144 < zN := Nat.le_of_ble_eq_true rfl
theorem z_144 : zsh 144 = (2, 3, 125) := by decide +kernel
theorem k_145 : 145 < zN := Nat.le_of_ble_eq_true rfl
theorem z_145 : zsh 145 = (1, 0, 6) := by decide +kernel
theorem k_146 : 146 < zN := Nat.le_of_ble_eq_true rfl
theorem z_146 : zsh 146 = (0, 1, 0) := by decide +kernel
theorem k_147 : 147 < zN := Nat.le_of_ble_eq_true rfl
theorem z_147 : zsh 147 = (0, 10, 0) := by decide +kernel
theorem r_147_0 : zref 147 0 = some 148 := by decide +kernel
theorem r_147_1 : zref 147 1 = some 149 := by decide +kernel
theorem r_147_4 : zref 147 4 = some 150 := by decide +kernel
theorem r_147_5 : zref 147 5 = some 151 := by decide +kernel
theorem r_147_6 : zref 147 6 = some 152 := by decide +kernel
theorem r_147_7 : zref 147 7 = some 161 := by decide +kernel
theorem r_147_8 : zref 147 8 = some 162 := by decide +kernel
theorem k_148 : 148 < zN := Nat.le_of_ble_eq_true rfl
theorem z_148 : zsh 148 = (1, 0, 4096) := by decide +kernel
theorem k_149 : 149 < zN := Nat.le_of_ble_eq_true rfl
theorem z_149 : zsh 149 = (1, 0, 4096) := by decide +kernel
theorem k_150 : 150 < zN := Nat.le_of_ble_eq_true rfl
theorem z_150 : zsh 150 = (1, 0, 8) := by decide +kernel
theorem k_151 : 151 < zN := Nat.le_of_ble_eq_true rfl
theorem z_151 : zsh 151 = (1, 0, 8) := by decide +kernel
theorem k_152 : 152 < zN := Nat.le_of_ble_eq_true rfl
theorem z_152 : zsh 152 = (3, 7, 8) := by decide +kernel
theorem k_153 : 153 < zN := Nat.le_of_ble_eq_true rfl
theorem z_153 : zsh 153 = (1, 0, 8) := by decide +kernel
theorem k_154 : 154 < zN := Nat.le_of_ble_eq_true rfl
theorem z_154 : zsh 154 = (1, 0, 8) := by decide +kernel
theorem k_155 : 155 < zN := Nat.le_of_ble_eq_true rfl
theorem z_155 : zsh 155 = (1, 0, 8) := by decide +kernel
theorem k_156 : 156 < zN := Nat.le_of_ble_eq_true rfl
theorem z_156 : zsh 156 = (1, 0, 8) := by decide +kernel
theorem k_157 : 157 < zN := Nat.le_of_ble_eq_true rfl
theorem z_157 : zsh 157 = (1, 0, 8) := by decide +kernel
theorem k_158 : 158 < zN := Nat.le_of_ble_eq_true rfl
theorem z_158 : zsh 158 = (1, 0, 8) := by decide +kernel
theorem k_159 : 159 < zN := Nat.le_of_ble_eq_true rfl
theorem z_159 : zsh 159 = (1, 0, 8) := by decide +kernel
theorem k_160 : 160 < zN := Nat.le_of_ble_eq_true rfl
theorem z_160 : zsh 160 = (1, 0, 8) := by decide +kernel
theorem k_161 : 161 < zN := Nat.le_of_ble_eq_true rfl
theorem z_161 : zsh 161 = (1, 0, 2048) := by decide +kernel
theorem k_162 : 162 < zN := Nat.le_of_ble_eq_true rfl
theorem z_162 : zsh 162 = (1, 0, 8) := by decide +kernel
theorem k_163 : 163 < zN := Nat.le_of_ble_eq_true rfl
theorem z_163 : zsh 163 = (0, 1, 0) := by decide +kernel
theorem k_164 : 164 < zN := Nat.le_of_ble_eq_true rfl
theorem z_164 : zsh 164 = (0, 1, 0) := by decide +kernel
theorem k_165 : 165 < zN := Nat.le_of_ble_eq_true rfl
theorem z_165 : zsh 165 = (0, 1, 0) := by decide +kernel
theorem k_166 : 166 < zN := Nat.le_of_ble_eq_true rfl
theorem z_166 : zsh 166 = (0, 12, 0) := by decide +kernel
theorem r_166_1 : zref 166 1 = some 167 := by decide +kernel
theorem r_166_5 : zref 166 5 = some 168 := by decide +kernel
theorem r_166_6 : zref 166 6 = some 169 := by decide +kernel
theorem r_166_7 : zref 166 7 = some 170 := by decide +kernel
theorem r_166_8 : zref 166 8 = some 171 := by decide +kernel
theorem r_166_9 : zref 166 9 = some 172 := by decide +kernel
theorem r_166_13 : zref 166 13 = some 173 := by decide +kernel
theorem r_166_14 : zref 166 14 = some 174 := by decide +kernel
theorem r_166_15 : zref 166 15 = some 175 := by decide +kernel
theorem r_166_21 : zref 166 21 = some 176 := by decide +kernel
theorem r_166_22 : zref 166 22 = some 177 := by decide +kernel
theorem r_166_23 : zref 166 23 = some 178 := by decide +kernel
theorem r_166_28 : zref 166 28 = some 179 := by decide +kernel
theorem r_166_30 : zref 166 30 = some 180 := by decide +kernel
theorem r_166_31 : zref 166 31 = some 181 := by decide +kernel
theorem r_166_32 : zref 166 32 = some 182 := by decide +kernel
theorem r_166_34 : zref 166 34 = some 183 := by decide +kernel
theorem r_166_35 : zref 166 35 = some 184 := by decide +kernel
theorem r_166_36 : zref 166 36 = some 185 := by decide +kernel
theorem r_166_37 : zref 166 37 = some 186 := by decide +kernel
theorem r_166_38 : zref 166 38 = some 187 := by decide +kernel
theorem r_166_39 : zref 166 39 = some 188 := by decide +kernel
theorem r_166_40 : zref 166 40 = some 189 := by decide +kernel
theorem r_166_42 : zref 166 42 = some 190 := by decide +kernel
theorem r_166_43 : zref 166 43 = some 191 := by decide +kernel
theorem r_166_44 : zref 166 44 = some 192 := by decide +kernel
theorem r_166_45 : zref 166 45 = some 193 := by decide +kernel
theorem r_166_46 : zref 166 46 = some 194 := by decide +kernel
theorem r_166_47 : zref 166 47 = some 195 := by decide +kernel
theorem r_166_48 : zref 166 48 = some 196 := by decide +kernel
theorem r_166_50 : zref 166 50 = some 197 := by decide +kernel
theorem r_166_51 : zref 166 51 = some 198 := by decide +kernel
theorem r_166_52 : zref 166 52 = some 199 := by decide +kernel
theorem r_166_54 : zref 166 54 = some 200 := by decide +kernel
theorem r_166_56 : zref 166 56 = some 201 := by decide +kernel
theorem k_167 : 167 < zN := Nat.le_of_ble_eq_true rfl
theorem z_167 : zsh 167 = (1, 0, 6) := by decide +kernel
theorem k_168 : 168 < zN := Nat.le_of_ble_eq_true rfl
theorem z_168 : zsh 168 = (1, 0, 6) := by decide +kernel
theorem k_169 : 169 < zN := Nat.le_of_ble_eq_true rfl
theorem z_169 : zsh 169 = (1, 0, 240) := by decide +kernel
theorem k_170 : 170 < zN := Nat.le_of_ble_eq_true rfl
theorem z_170 : zsh 170 = (1, 0, 40) := by decide +kernel
theorem k_171 : 171 < zN := Nat.le_of_ble_eq_true rfl
theorem z_171 : zsh 171 = (1, 0, 4) := by decide +kernel
theorem k_172 : 172 < zN := Nat.le_of_ble_eq_true rfl
theorem z_172 : zsh 172 = (1, 1, 320) := by decide +kernel
theorem k_173 : 173 < zN := Nat.le_of_ble_eq_true rfl
theorem z_173 : zsh 173 = (1, 0, 2) := by decide +kernel
theorem k_174 : 174 < zN := Nat.le_of_ble_eq_true rfl
theorem z_174 : zsh 174 = (1, 0, 24) := by decide +kernel
theorem k_175 : 175 < zN := Nat.le_of_ble_eq_true rfl
theorem z_175 : zsh 175 = (1, 0, 18) := by decide +kernel
theorem k_176 : 176 < zN := Nat.le_of_ble_eq_true rfl
theorem z_176 : zsh 176 = (1, 0, 2) := by decide +kernel
theorem k_177 : 177 < zN := Nat.le_of_ble_eq_true rfl
theorem z_177 : zsh 177 = (1, 0, 24) := by decide +kernel
theorem k_178 : 178 < zN := Nat.le_of_ble_eq_true rfl
theorem z_178 : zsh 178 = (1, 0, 18) := by decide +kernel
theorem k_179 : 179 < zN := Nat.le_of_ble_eq_true rfl
theorem z_179 : zsh 179 = (1, 0, 6) := by decide +kernel
theorem k_180 : 180 < zN := Nat.le_of_ble_eq_true rfl
theorem z_180 : zsh 180 = (1, 0, 14) := by decide +kernel
theorem k_181 : 181 < zN := Nat.le_of_ble_eq_true rfl
theorem z_181 : zsh 181 = (1, 0, 14) := by decide +kernel
theorem k_182 : 182 < zN := Nat.le_of_ble_eq_true rfl
theorem z_182 : zsh 182 = (1, 0, 10) := by decide +kernel
theorem k_183 : 183 < zN := Nat.le_of_ble_eq_true rfl
theorem z_183 : zsh 183 = (1, 0, 36) := by decide +kernel
theorem k_184 : 184 < zN := Nat.le_of_ble_eq_true rfl
theorem z_184 : zsh 184 = (1, 0, 72) := by decide +kernel
theorem k_185 : 185 < zN := Nat.le_of_ble_eq_true rfl
theorem z_185 : zsh 185 = (1, 0, 120) := by decide +kernel
theorem k_186 : 186 < zN := Nat.le_of_ble_eq_true rfl
theorem z_186 : zsh 186 = (1, 2, 6) := by decide +kernel
theorem k_187 : 187 < zN := Nat.le_of_ble_eq_true rfl
theorem z_187 : zsh 187 = (1, 0, 60) := by decide +kernel
theorem k_188 : 188 < zN := Nat.le_of_ble_eq_true rfl
theorem z_188 : zsh 188 = (1, 0, 60) := by decide +kernel
theorem k_189 : 189 < zN := Nat.le_of_ble_eq_true rfl
theorem z_189 : zsh 189 = (1, 0, 6) := by decide +kernel
theorem k_190 : 190 < zN := Nat.le_of_ble_eq_true rfl
theorem z_190 : zsh 190 = (1, 0, 10) := by decide +kernel
theorem k_191 : 191 < zN := Nat.le_of_ble_eq_true rfl
theorem z_191 : zsh 191 = (1, 0, 10) := by decide +kernel
theorem k_192 : 192 < zN := Nat.le_of_ble_eq_true rfl
theorem z_192 : zsh 192 = (1, 0, 6) := by decide +kernel
theorem k_193 : 193 < zN := Nat.le_of_ble_eq_true rfl
theorem z_193 : zsh 193 = (1, 0, 6) := by decide +kernel
theorem k_194 : 194 < zN := Nat.le_of_ble_eq_true rfl
theorem z_194 : zsh 194 = (1, 0, 4096) := by decide +kernel
theorem k_195 : 195 < zN := Nat.le_of_ble_eq_true rfl
theorem z_195 : zsh 195 = (1, 0, 4096) := by decide +kernel
theorem k_196 : 196 < zN := Nat.le_of_ble_eq_true rfl
theorem z_196 : zsh 196 = (1, 2, 4096) := by decide +kernel
theorem k_197 : 197 < zN := Nat.le_of_ble_eq_true rfl
theorem z_197 : zsh 197 = (1, 0, 8) := by decide +kernel
theorem k_198 : 198 < zN := Nat.le_of_ble_eq_true rfl
theorem z_198 : zsh 198 = (1, 0, 64) := by decide +kernel
theorem k_199 : 199 < zN := Nat.le_of_ble_eq_true rfl
theorem z_199 : zsh 199 = (1, 0, 2048) := by decide +kernel
theorem k_200 : 200 < zN := Nat.le_of_ble_eq_true rfl
theorem z_200 : zsh 200 = (1, 0, 24) := by decide +kernel
theorem k_201 : 201 < zN := Nat.le_of_ble_eq_true rfl
theorem z_201 : zsh 201 = (1, 0, 72) := by decide +kernel
section ZA
variable {G : zG} {X : zX} {M : zM} {pc : Nat} {lo st : List Value} {w : zW}
theorem zk_if_eqB (hX : zH G X M) {p : Prop} [Decidable p] {off : Int} {tgt : Nat} (d : decode M.2.1 pc = .ok (.ifCond .eq off, 3)) (ht : (pc : Int) + off = (tgt : Int)) (kt : ¬ p → zk0 G X M tgt lo st w) (kf : p → zk0 G X M (pc + 3) lo st w) : zk0 G X M pc lo (.int (zb p) :: st) w :=
  zk_if_eq hX d ht (fun h => kt (zb_0.mp h)) (fun h => kf (Decidable.not_not.mp (fun q => h (zb_0.mpr q))))
theorem zk_if_neB (hX : zH G X M) {p : Prop} [Decidable p] {off : Int} {tgt : Nat} (d : decode M.2.1 pc = .ok (.ifCond .ne off, 3)) (ht : (pc : Int) + off = (tgt : Int)) (kt : p → zk0 G X M tgt lo st w) (kf : ¬ p → zk0 G X M (pc + 3) lo st w) : zk0 G X M pc lo (.int (zb p) :: st) w :=
  zk_if_ne hX d ht (fun h => kt (Decidable.not_not.mp (fun q => h (zb_0.mpr q)))) (fun h => kf (zb_0.mp h))
theorem zk_rows (hX : zH G X M) (hw : zWf w) {j : Nat} {i : Int32} (d : decode M.2.1 pc = .ok (.aaload, 1)) (e : i = nI j) (hj : j < 6) (kk : zk0 G X M (pc + 1) lo (.ref (4 + 2 * j) :: st) w) : zk0 G X M pc lo (.int i :: .ref 3 :: st) w := by
  subst e
  exact zk_aaldN hX d k_3 z_3 rfl rfl hj rfl ((hw 3 j (by decide)).trans ((by decide +kernel : ∀ j, j < 6 → zref 3 j = some (4 + 2 * j)) j hj)) kk
theorem zk_texts (hX : zH G X M) (hw : zWf w) {j : Nat} {i : Int32} (d : decode M.2.1 pc = .ok (.aaload, 1)) (e : i = nI j) (hj : j < 4) (kk : zk0 G X M (pc + 1) lo (.ref (17 + 2 * j) :: st) w) : zk0 G X M pc lo (.int i :: .ref 16 :: st) w := by
  subst e
  exact zk_aaldN hX d k_16 z_16 rfl rfl hj rfl ((hw 16 j (by decide)).trans ((by decide +kernel : ∀ j, j < 4 → zref 16 j = some (17 + 2 * j)) j hj)) kk
theorem zk_poses (hX : zH G X M) (hw : zWf w) {j : Nat} {i : Int32} (d : decode M.2.1 pc = .ok (.aaload, 1)) (e : i = nI j) (hj : j < 12) (kk : zk0 G X M (pc + 1) lo (.ref (47 + 4 * j) :: st) w) : zk0 G X M pc lo (.int i :: .ref 46 :: st) w := by
  subst e
  exact zk_aaldN hX d k_46 z_46 rfl rfl hj rfl ((hw 46 j (by decide)).trans ((by decide +kernel : ∀ j, j < 12 → zref 46 j = some (47 + 4 * j)) j hj)) kk
theorem zk_beasts (hX : zH G X M) (hw : zWf w) {j : Nat} {i : Int32} (d : decode M.2.1 pc = .ok (.aaload, 1)) (e : i = nI j) (hj : j < 6) (kk : zk0 G X M (pc + 1) lo (.ref (96 + 3 * j) :: st) w) : zk0 G X M pc lo (.int i :: .ref 95 :: st) w := by
  subst e
  exact zk_aaldN hX d k_95 z_95 rfl rfl hj rfl ((hw 95 j (by decide)).trans ((by decide +kernel : ∀ j, j < 6 → zref 95 j = some (96 + 3 * j)) j hj)) kk
theorem zk_weights (hX : zH G X M) (hw : zWf w) {j : Nat} {i : Int32} (d : decode M.2.1 pc = .ok (.aaload, 1)) (e : i = nI j) (hj : j < 8) (kk : zk0 G X M (pc + 1) lo (.ref (116 + j) :: st) w) : zk0 G X M pc lo (.int i :: .ref 115 :: st) w := by
  subst e
  exact zk_aaldN hX d k_115 z_115 rfl rfl hj rfl ((hw 115 j (by decide)).trans ((by decide +kernel : ∀ j, j < 8 → zref 115 j = some (116 + j)) j hj)) kk
theorem zk_between (hX : zH G X M) (hw : zWf w) {j : Nat} {i : Int32} (d : decode M.2.1 pc = .ok (.aaload, 1)) (e : i = nI j) (hj : j < 8) (kk : zk0 G X M (pc + 1) lo (.ref (153 + j) :: st) w) : zk0 G X M pc lo (.int i :: .ref 152 :: st) w := by
  subst e
  exact zk_aaldN hX d k_152 z_152 rfl rfl hj rfl ((hw 152 j (by decide)).trans ((by decide +kernel : ∀ j, j < 8 → zref 152 j = some (153 + j)) j hj)) kk
end ZA

theorem zC_of {G : zG} {M : zM} {n : Nat} {w : zW} {args lo : List Value} {n' : Nat} {Q : Option Value → zW → Prop} {a : Nat} (hy : zCal M a) (hN : (args.map fun v => v.category).sum ≤ M.2.2.1) (hlo : zlo args ++ List.replicate (M.2.2.1 - (zlo args).length) .null = lo)
    (body : ∀ X : zX, zH G X M → zR G X M n' Q → zk G X M n 0 0 0 lo [] w) : zC G M args n w n' Q := by
  refine zC.of hy hN (fun X hX hE => zk_lo (lo' := lo) (fun k v h hv => ?_) (body X hX hE))
  subst hlo
  by_cases hk : k < (zlo args).length
  · rwa [List.getElem?_append_left hk] at h
  · rw [List.getElem?_append_right (by omega), List.getElem?_replicate] at h
    split at h
    · cases h
      exact absurd rfl hv
    · cases h
