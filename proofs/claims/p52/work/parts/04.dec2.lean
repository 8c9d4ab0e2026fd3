theorem dX11_off_44 : decode cX11_off 44 = .ok (.aload_n 0, 1) := by decide +kernel
theorem dX11_off_45 : decode cX11_off 45 = .ok (.getfield 48, 3) := by decide +kernel
theorem dX11_off_48 : decode cX11_off 48 = .ok (.aload_n 0, 1) := by decide +kernel
theorem dX11_off_49 : decode cX11_off 49 = .ok (.getfield 97, 3) := by decide +kernel
theorem dX11_off_52 : decode cX11_off 52 = .ok (.invokevirtual 268, 3) := by decide +kernel
theorem dX11_off_55 : decode cX11_off 55 = .ok (.aload_n 0, 1) := by decide +kernel
theorem dX11_off_56 : decode cX11_off 56 = .ok (.getfield 12, 3) := by decide +kernel
theorem dX11_off_59 : decode cX11_off 59 = .ok (.aload_n 0, 1) := by decide +kernel
theorem dX11_off_60 : decode cX11_off 60 = .ok (.getfield 68, 3) := by decide +kernel
theorem dX11_off_63 : decode cX11_off 63 = .ok (.iload_n 2, 1) := by decide +kernel
theorem dX11_off_64 : decode cX11_off 64 = .ok (.aaload, 1) := by decide +kernel
theorem dX11_off_65 : decode cX11_off 65 = .ok (.aload_n 0, 1) := by decide +kernel
theorem dX11_off_66 : decode cX11_off 66 = .ok (.getfield 97, 3) := by decide +kernel
theorem dX11_off_69 : decode cX11_off 69 = .ok (.getfield 288, 3) := by decide +kernel
theorem dX11_off_72 : decode cX11_off 72 = .ok (.aload_n 0, 1) := by decide +kernel
theorem dX11_off_73 : decode cX11_off 73 = .ok (.getfield 97, 3) := by decide +kernel
theorem dX11_off_76 : decode cX11_off 76 = .ok (.getfield 292, 3) := by decide +kernel
theorem dX11_off_79 : decode cX11_off 79 = .ok (.invokevirtual 295, 3) := by decide +kernel
theorem dX11_off_82 : decode cX11_off 82 = .ok (.invokevirtual 132, 3) := by decide +kernel
theorem dX11_off_85 : decode cX11_off 85 = .ok (.pop, 1) := by decide +kernel
theorem dX11_off_86 : decode cX11_off 86 = .ok (.aload_n 0, 1) := by decide +kernel
theorem dX11_off_87 : decode cX11_off 87 = .ok (.getfield 68, 3) := by decide +kernel
theorem dX11_off_90 : decode cX11_off 90 = .ok (.iload_n 2, 1) := by decide +kernel
theorem dX11_off_91 : decode cX11_off 91 = .ok (.aaload, 1) := by decide +kernel
theorem dX11_off_92 : decode cX11_off 92 = .ok (.aload_n 0, 1) := by decide +kernel
theorem dX11_off_93 : decode cX11_off 93 = .ok (.getfield 97, 3) := by decide +kernel
theorem dX11_off_96 : decode cX11_off 96 = .ok (.getfield 288, 3) := by decide +kernel
theorem dX11_off_99 : decode cX11_off 99 = .ok (.aload_n 0, 1) := by decide +kernel
theorem dX11_off_100 : decode cX11_off 100 = .ok (.getfield 97, 3) := by decide +kernel
theorem dX11_off_103 : decode cX11_off 103 = .ok (.getfield 292, 3) := by decide +kernel
theorem dX11_off_106 : decode cX11_off 106 = .ok (.invokevirtual 299, 3) := by decide +kernel
theorem dX11_off_109 : decode cX11_off 109 = .ok (.ireturn, 1) := by decide +kernel
theorem dX11_many_0 : decode cX11_many 0 = .ok (.aload_n 0, 1) := by decide +kernel
theorem dX11_many_1 : decode cX11_many 1 = .ok (.getfield 83, 3) := by decide +kernel
theorem dX11_many_4 : decode cX11_many 4 = .ok (.getfield 302, 3) := by decide +kernel
theorem dX11_many_7 : decode cX11_many 7 = .ok (.ifCond .eq 6, 3) := by decide +kernel
theorem dX11_many_10 : decode cX11_many 10 = .ok (.bipush (-6), 2) := by decide +kernel
theorem dX11_many_12 : decode cX11_many 12 = .ok (.ireturn, 1) := by decide +kernel
theorem dX11_many_13 : decode cX11_many 13 = .ok (.iconst 0, 1) := by decide +kernel
theorem dX11_many_14 : decode cX11_many 14 = .ok (.istore_n 1, 1) := by decide +kernel
theorem dX11_many_15 : decode cX11_many 15 = .ok (.iconst 0, 1) := by decide +kernel
theorem dX11_many_16 : decode cX11_many 16 = .ok (.istore_n 2, 1) := by decide +kernel
theorem dX11_many_17 : decode cX11_many 17 = .ok (.iconst 0, 1) := by decide +kernel
theorem dX11_many_18 : decode cX11_many 18 = .ok (.istore_n 3, 1) := by decide +kernel
theorem dX11_many_19 : decode cX11_many 19 = .ok (.iload_n 3, 1) := by decide +kernel
theorem dX11_many_20 : decode cX11_many 20 = .ok (.aload_n 0, 1) := by decide +kernel
theorem dX11_many_21 : decode cX11_many 21 = .ok (.getfield 83, 3) := by decide +kernel
theorem dX11_many_24 : decode cX11_many 24 = .ok (.getfield 305, 3) := by decide +kernel
theorem dX11_many_27 : decode cX11_many 27 = .ok (.if_icmp .ge 44, 3) := by decide +kernel
theorem dX11_many_30 : decode cX11_many 30 = .ok (.aload_n 0, 1) := by decide +kernel
theorem dX11_many_31 : decode cX11_many 31 = .ok (.getfield 83, 3) := by decide +kernel
theorem dX11_many_34 : decode cX11_many 34 = .ok (.iload_n 3, 1) := by decide +kernel
theorem dX11_many_35 : decode cX11_many 35 = .ok (.aload_n 0, 1) := by decide +kernel
theorem dX11_many_36 : decode cX11_many 36 = .ok (.getfield 55, 3) := by decide +kernel
theorem dX11_many_39 : decode cX11_many 39 = .ok (.invokevirtual 306, 3) := by decide +kernel
theorem dX11_many_42 : decode cX11_many 42 = .ok (.ifCond .eq 9, 3) := by decide +kernel
theorem dX11_many_45 : decode cX11_many 45 = .ok (.iinc 1 1, 3) := by decide +kernel
theorem dX11_many_48 : decode cX11_many 48 = .ok (.goto 17, 3) := by decide +kernel
theorem dX11_many_51 : decode cX11_many 51 = .ok (.aload_n 0, 1) := by decide +kernel
theorem dX11_many_52 : decode cX11_many 52 = .ok (.getfield 83, 3) := by decide +kernel
theorem dX11_many_55 : decode cX11_many 55 = .ok (.iload_n 3, 1) := by decide +kernel
theorem dX11_many_56 : decode cX11_many 56 = .ok (.invokevirtual 308, 3) := by decide +kernel
theorem dX11_many_59 : decode cX11_many 59 = .ok (.ifCond .ne 6, 3) := by decide +kernel
theorem dX11_many_62 : decode cX11_many 62 = .ok (.iinc 2 1, 3) := by decide +kernel
theorem dX11_many_65 : decode cX11_many 65 = .ok (.iinc 3 1, 3) := by decide +kernel
theorem dX11_many_68 : decode cX11_many 68 = .ok (.goto (-49), 3) := by decide +kernel
theorem dX11_many_71 : decode cX11_many 71 = .ok (.aload_n 0, 1) := by decide +kernel
theorem dX11_many_72 : decode cX11_many 72 = .ok (.getfield 12, 3) := by decide +kernel
theorem dX11_many_75 : decode cX11_many 75 = .ok (.iload_n 2, 1) := by decide +kernel
theorem dX11_many_76 : decode cX11_many 76 = .ok (.invokevirtual 132, 3) := by decide +kernel
theorem dX11_many_79 : decode cX11_many 79 = .ok (.pop, 1) := by decide +kernel
theorem dX11_many_80 : decode cX11_many 80 = .ok (.iload_n 1, 1) := by decide +kernel
theorem dX11_many_81 : decode cX11_many 81 = .ok (.ireturn, 1) := by decide +kernel
theorem dX11_nearest_0 : decode cX11_nearest 0 = .ok (.iload_n 1, 1) := by decide +kernel
theorem dX11_nearest_1 : decode cX11_nearest 1 = .ok (.invokestatic 272, 3) := by decide +kernel
theorem dX11_nearest_4 : decode cX11_nearest 4 = .ok (.ifCond .eq 10, 3) := by decide +kernel
theorem dX11_nearest_7 : decode cX11_nearest 7 = .ok (.iload_n 2, 1) := by decide +kernel
theorem dX11_nearest_8 : decode cX11_nearest 8 = .ok (.invokestatic 107, 3) := by decide +kernel
theorem dX11_nearest_11 : decode cX11_nearest 11 = .ok (.ifCond .ne 5, 3) := by decide +kernel
theorem dX11_nearest_14 : decode cX11_nearest 14 = .ok (.iconst (-1), 1) := by decide +kernel
theorem dX11_nearest_15 : decode cX11_nearest 15 = .ok (.ireturn, 1) := by decide +kernel
theorem dX11_nearest_16 : decode cX11_nearest 16 = .ok (.aload_n 0, 1) := by decide +kernel
theorem dX11_nearest_17 : decode cX11_nearest 17 = .ok (.getfield 68, 3) := by decide +kernel
theorem dX11_nearest_20 : decode cX11_nearest 20 = .ok (.iload_n 1, 1) := by decide +kernel
theorem dX11_nearest_21 : decode cX11_nearest 21 = .ok (.aaload, 1) := by decide +kernel
theorem dX11_nearest_22 : decode cX11_nearest 22 = .ok (.getfield 284, 3) := by decide +kernel
theorem dX11_nearest_25 : decode cX11_nearest 25 = .ok (.ifCond .ne 12, 3) := by decide +kernel
theorem dX11_nearest_28 : decode cX11_nearest 28 = .ok (.aload_n 0, 1) := by decide +kernel
theorem dX11_nearest_29 : decode cX11_nearest 29 = .ok (.getfield 12, 3) := by decide +kernel
theorem dX11_nearest_32 : decode cX11_nearest 32 = .ok (.iconst 1, 1) := by decide +kernel
theorem dX11_nearest_33 : decode cX11_nearest 33 = .ok (.invokevirtual 111, 3) := by decide +kernel
theorem dX11_nearest_36 : decode cX11_nearest 36 = .ok (.ireturn, 1) := by decide +kernel
theorem dX11_nearest_37 : decode cX11_nearest 37 = .ok (.aload_n 0, 1) := by decide +kernel
theorem dX11_nearest_38 : decode cX11_nearest 38 = .ok (.getfield 83, 3) := by decide +kernel
theorem dX11_nearest_41 : decode cX11_nearest 41 = .ok (.getfield 302, 3) := by decide +kernel
theorem dX11_nearest_44 : decode cX11_nearest 44 = .ok (.ifCond .eq 6, 3) := by decide +kernel
theorem dX11_nearest_47 : decode cX11_nearest 47 = .ok (.bipush (-6), 2) := by decide +kernel
theorem dX11_nearest_49 : decode cX11_nearest 49 = .ok (.ireturn, 1) := by decide +kernel
theorem dX11_nearest_50 : decode cX11_nearest 50 = .ok (.aload_n 0, 1) := by decide +kernel
theorem dX11_nearest_51 : decode cX11_nearest 51 = .ok (.getfield 83, 3) := by decide +kernel
theorem dX11_nearest_54 : decode cX11_nearest 54 = .ok (.aload_n 0, 1) := by decide +kernel
theorem dX11_nearest_55 : decode cX11_nearest 55 = .ok (.getfield 38, 3) := by decide +kernel
theorem dX11_nearest_58 : decode cX11_nearest 58 = .ok (.aload_n 0, 1) := by decide +kernel
theorem dX11_nearest_59 : decode cX11_nearest 59 = .ok (.getfield 48, 3) := by decide +kernel
theorem dX11_nearest_62 : decode cX11_nearest 62 = .ok (.iconst (-1), 1) := by decide +kernel
theorem dX11_nearest_63 : decode cX11_nearest 63 = .ok (.invokevirtual 311, 3) := by decide +kernel
theorem dX11_nearest_66 : decode cX11_nearest 66 = .ok (.aload_n 0, 1) := by decide +kernel
theorem dX11_nearest_67 : decode cX11_nearest 67 = .ok (.getfield 83, 3) := by decide +kernel
theorem dX11_nearest_70 : decode cX11_nearest 70 = .ok (.aload_n 0, 1) := by decide +kernel
theorem dX11_nearest_71 : decode cX11_nearest 71 = .ok (.getfield 38, 3) := by decide +kernel
theorem dX11_nearest_74 : decode cX11_nearest 74 = .ok (.aload_n 0, 1) := by decide +kernel
theorem dX11_nearest_75 : decode cX11_nearest 75 = .ok (.getfield 68, 3) := by decide +kernel
theorem dX11_nearest_78 : decode cX11_nearest 78 = .ok (.iload_n 1, 1) := by decide +kernel
theorem dX11_nearest_79 : decode cX11_nearest 79 = .ok (.aaload, 1) := by decide +kernel
theorem dX11_nearest_80 : decode cX11_nearest 80 = .ok (.aload_n 0, 1) := by decide +kernel
theorem dX11_nearest_81 : decode cX11_nearest 81 = .ok (.getfield 55, 3) := by decide +kernel
theorem dX11_nearest_84 : decode cX11_nearest 84 = .ok (.bipush (-9), 2) := by decide +kernel
theorem dX11_nearest_86 : decode cX11_nearest 86 = .ok (.invokevirtual 315, 3) := by decide +kernel
theorem dX11_nearest_89 : decode cX11_nearest 89 = .ok (.istore_n 3, 1) := by decide +kernel
theorem dX11_nearest_90 : decode cX11_nearest 90 = .ok (.iload_n 3, 1) := by decide +kernel
theorem dX11_nearest_91 : decode cX11_nearest 91 = .ok (.bipush (-9), 2) := by decide +kernel
theorem dX11_nearest_93 : decode cX11_nearest 93 = .ok (.if_icmp .ne 6, 3) := by decide +kernel
theorem dX11_nearest_96 : decode cX11_nearest 96 = .ok (.bipush (-9), 2) := by decide +kernel
theorem dX11_nearest_98 : decode cX11_nearest 98 = .ok (.ireturn, 1) := by decide +kernel
theorem dX11_nearest_99 : decode cX11_nearest 99 = .ok (.aload_n 0, 1) := by decide +kernel
theorem dX11_nearest_100 : decode cX11_nearest 100 = .ok (.getfield 18, 3) := by decide +kernel
theorem dX11_nearest_103 : decode cX11_nearest 103 = .ok (.iload_n 2, 1) := by decide +kernel
theorem dX11_nearest_104 : decode cX11_nearest 104 = .ok (.aaload, 1) := by decide +kernel
theorem dX11_nearest_105 : decode cX11_nearest 105 = .ok (.aload_n 0, 1) := by decide +kernel
theorem dX11_nearest_106 : decode cX11_nearest 106 = .ok (.getfield 38, 3) := by decide +kernel
theorem dX11_nearest_109 : decode cX11_nearest 109 = .ok (.getfield 167, 3) := by decide +kernel
theorem dX11_nearest_112 : decode cX11_nearest 112 = .ok (.iconst 0, 1) := by decide +kernel
theorem dX11_nearest_113 : decode cX11_nearest 113 = .ok (.invokevirtual 115, 3) := by decide +kernel
theorem dX11_nearest_116 : decode cX11_nearest 116 = .ok (.iconst 0, 1) := by decide +kernel
theorem dX11_nearest_117 : decode cX11_nearest 117 = .ok (.istore 4, 2) := by decide +kernel
theorem dX11_nearest_119 : decode cX11_nearest 119 = .ok (.iload 4, 2) := by decide +kernel
theorem dX11_nearest_121 : decode cX11_nearest 121 = .ok (.aload_n 0, 1) := by decide +kernel
theorem dX11_nearest_122 : decode cX11_nearest 122 = .ok (.getfield 38, 3) := by decide +kernel
theorem dX11_nearest_125 : decode cX11_nearest 125 = .ok (.getfield 167, 3) := by decide +kernel
theorem dX11_nearest_128 : decode cX11_nearest 128 = .ok (.if_icmp .ge 34, 3) := by decide +kernel
theorem dX11_nearest_131 : decode cX11_nearest 131 = .ok (.aload_n 0, 1) := by decide +kernel
theorem dX11_nearest_132 : decode cX11_nearest 132 = .ok (.getfield 18, 3) := by decide +kernel
theorem dX11_nearest_135 : decode cX11_nearest 135 = .ok (.iload_n 2, 1) := by decide +kernel
theorem dX11_nearest_136 : decode cX11_nearest 136 = .ok (.aaload, 1) := by decide +kernel
theorem dX11_nearest_137 : decode cX11_nearest 137 = .ok (.iload 4, 2) := by decide +kernel
theorem dX11_nearest_139 : decode cX11_nearest 139 = .ok (.aload_n 0, 1) := by decide +kernel
theorem dX11_nearest_140 : decode cX11_nearest 140 = .ok (.getfield 83, 3) := by decide +kernel
theorem dX11_nearest_143 : decode cX11_nearest 143 = .ok (.aload_n 0, 1) := by decide +kernel
theorem dX11_nearest_144 : decode cX11_nearest 144 = .ok (.getfield 38, 3) := by decide +kernel
theorem dX11_nearest_147 : decode cX11_nearest 147 = .ok (.iload_n 3, 1) := by decide +kernel
theorem dX11_nearest_148 : decode cX11_nearest 148 = .ok (.iload 4, 2) := by decide +kernel
theorem dX11_nearest_150 : decode cX11_nearest 150 = .ok (.invokevirtual 319, 3) := by decide +kernel
theorem dX11_nearest_153 : decode cX11_nearest 153 = .ok (.invokevirtual 129, 3) := by decide +kernel
theorem dX11_nearest_156 : decode cX11_nearest 156 = .ok (.iinc 4 1, 3) := by decide +kernel
theorem dX11_nearest_159 : decode cX11_nearest 159 = .ok (.goto (-40), 3) := by decide +kernel
theorem dX11_nearest_162 : decode cX11_nearest 162 = .ok (.aload_n 0, 1) := by decide +kernel
theorem dX11_nearest_163 : decode cX11_nearest 163 = .ok (.getfield 83, 3) := by decide +kernel
theorem dX11_nearest_166 : decode cX11_nearest 166 = .ok (.aload_n 0, 1) := by decide +kernel
theorem dX11_nearest_167 : decode cX11_nearest 167 = .ok (.getfield 68, 3) := by decide +kernel
theorem dX11_nearest_170 : decode cX11_nearest 170 = .ok (.iload_n 1, 1) := by decide +kernel
theorem dX11_nearest_171 : decode cX11_nearest 171 = .ok (.aaload, 1) := by decide +kernel
theorem dX11_nearest_172 : decode cX11_nearest 172 = .ok (.iload_n 3, 1) := by decide +kernel
theorem dX11_nearest_173 : decode cX11_nearest 173 = .ok (.invokevirtual 323, 3) := by decide +kernel
theorem dX11_nearest_176 : decode cX11_nearest 176 = .ok (.ireturn, 1) := by decide +kernel
theorem dX11_never_0 : decode cX11_never 0 = .ok (.iload_n 1, 1) := by decide +kernel
theorem dX11_never_1 : decode cX11_never 1 = .ok (.invokestatic 272, 3) := by decide +kernel
theorem dX11_never_4 : decode cX11_never 4 = .ok (.ifCond .eq 10, 3) := by decide +kernel
theorem dX11_never_7 : decode cX11_never 7 = .ok (.iload_n 2, 1) := by decide +kernel
theorem dX11_never_8 : decode cX11_never 8 = .ok (.invokestatic 107, 3) := by decide +kernel
theorem dX11_never_11 : decode cX11_never 11 = .ok (.ifCond .ne 5, 3) := by decide +kernel
theorem dX11_never_14 : decode cX11_never 14 = .ok (.iconst (-1), 1) := by decide +kernel
theorem dX11_never_15 : decode cX11_never 15 = .ok (.ireturn, 1) := by decide +kernel
theorem dX11_never_16 : decode cX11_never 16 = .ok (.aload_n 0, 1) := by decide +kernel
theorem dX11_never_17 : decode cX11_never 17 = .ok (.getfield 68, 3) := by decide +kernel
theorem dX11_never_20 : decode cX11_never 20 = .ok (.iload_n 1, 1) := by decide +kernel
theorem dX11_never_21 : decode cX11_never 21 = .ok (.aaload, 1) := by decide +kernel
theorem dX11_never_22 : decode cX11_never 22 = .ok (.getfield 284, 3) := by decide +kernel
theorem dX11_never_25 : decode cX11_never 25 = .ok (.ifCond .ne 12, 3) := by decide +kernel
theorem dX11_never_28 : decode cX11_never 28 = .ok (.aload_n 0, 1) := by decide +kernel
theorem dX11_never_29 : decode cX11_never 29 = .ok (.getfield 12, 3) := by decide +kernel
theorem dX11_never_32 : decode cX11_never 32 = .ok (.iconst 1, 1) := by decide +kernel
theorem dX11_never_33 : decode cX11_never 33 = .ok (.invokevirtual 111, 3) := by decide +kernel
theorem dX11_never_36 : decode cX11_never 36 = .ok (.ireturn, 1) := by decide +kernel
theorem dX11_never_37 : decode cX11_never 37 = .ok (.aload_n 0, 1) := by decide +kernel
theorem dX11_never_38 : decode cX11_never 38 = .ok (.getfield 83, 3) := by decide +kernel
theorem dX11_never_41 : decode cX11_never 41 = .ok (.getfield 302, 3) := by decide +kernel
theorem dX11_never_44 : decode cX11_never 44 = .ok (.ifCond .eq 6, 3) := by decide +kernel
theorem dX11_never_47 : decode cX11_never 47 = .ok (.bipush (-6), 2) := by decide +kernel
theorem dX11_never_49 : decode cX11_never 49 = .ok (.ireturn, 1) := by decide +kernel
theorem dX11_never_50 : decode cX11_never 50 = .ok (.aload_n 0, 1) := by decide +kernel
theorem dX11_never_51 : decode cX11_never 51 = .ok (.getfield 83, 3) := by decide +kernel
theorem dX11_never_54 : decode cX11_never 54 = .ok (.aload_n 0, 1) := by decide +kernel
theorem dX11_never_55 : decode cX11_never 55 = .ok (.getfield 55, 3) := by decide +kernel
theorem dX11_never_58 : decode cX11_never 58 = .ok (.aload_n 0, 1) := by decide +kernel
theorem dX11_never_59 : decode cX11_never 59 = .ok (.getfield 104, 3) := by decide +kernel
theorem dX11_never_62 : decode cX11_never 62 = .ok (.invokevirtual 326, 3) := by decide +kernel
theorem dX11_never_65 : decode cX11_never 65 = .ok (.aload_n 0, 1) := by decide +kernel
theorem dX11_never_66 : decode cX11_never 66 = .ok (.getfield 48, 3) := by decide +kernel
theorem dX11_never_69 : decode cX11_never 69 = .ok (.aload_n 0, 1) := by decide +kernel
theorem dX11_never_70 : decode cX11_never 70 = .ok (.getfield 104, 3) := by decide +kernel
theorem dX11_never_73 : decode cX11_never 73 = .ok (.getfield 288, 3) := by decide +kernel
theorem dX11_never_76 : decode cX11_never 76 = .ok (.aload_n 0, 1) := by decide +kernel
theorem dX11_never_77 : decode cX11_never 77 = .ok (.getfield 104, 3) := by decide +kernel
theorem dX11_never_80 : decode cX11_never 80 = .ok (.getfield 292, 3) := by decide +kernel
theorem dX11_never_83 : decode cX11_never 83 = .ok (.aload_n 0, 1) := by decide +kernel
theorem dX11_never_84 : decode cX11_never 84 = .ok (.getfield 97, 3) := by decide +kernel
theorem dX11_never_87 : decode cX11_never 87 = .ok (.invokevirtual 330, 3) := by decide +kernel
theorem dX11_never_90 : decode cX11_never 90 = .ok (.aload_n 0, 1) := by decide +kernel
theorem dX11_never_91 : decode cX11_never 91 = .ok (.getfield 101, 3) := by decide +kernel
theorem dX11_never_94 : decode cX11_never 94 = .ok (.aload_n 0, 1) := by decide +kernel
theorem dX11_never_95 : decode cX11_never 95 = .ok (.getfield 68, 3) := by decide +kernel
theorem dX11_never_98 : decode cX11_never 98 = .ok (.iload_n 1, 1) := by decide +kernel
theorem dX11_never_99 : decode cX11_never 99 = .ok (.aaload, 1) := by decide +kernel
theorem dX11_never_100 : decode cX11_never 100 = .ok (.getfield 275, 3) := by decide +kernel
theorem dX11_never_103 : decode cX11_never 103 = .ok (.invokevirtual 334, 3) := by decide +kernel
theorem dX11_never_106 : decode cX11_never 106 = .ok (.aload_n 0, 1) := by decide +kernel
theorem dX11_never_107 : decode cX11_never 107 = .ok (.getfield 101, 3) := by decide +kernel
theorem dX11_never_110 : decode cX11_never 110 = .ok (.aload_n 0, 1) := by decide +kernel
theorem dX11_never_111 : decode cX11_never 111 = .ok (.getfield 97, 3) := by decide +kernel
theorem dX11_never_114 : decode cX11_never 114 = .ok (.invokevirtual 336, 3) := by decide +kernel
theorem dX11_never_117 : decode cX11_never 117 = .ok (.aload_n 0, 1) := by decide +kernel
theorem dX11_never_118 : decode cX11_never 118 = .ok (.getfield 18, 3) := by decide +kernel
theorem dX11_never_121 : decode cX11_never 121 = .ok (.iload_n 2, 1) := by decide +kernel
theorem dX11_never_122 : decode cX11_never 122 = .ok (.aaload, 1) := by decide +kernel
theorem dX11_never_123 : decode cX11_never 123 = .ok (.aload_n 0, 1) := by decide +kernel
theorem dX11_never_124 : decode cX11_never 124 = .ok (.getfield 101, 3) := by decide +kernel
theorem dX11_never_127 : decode cX11_never 127 = .ok (.invokevirtual 265, 3) := by decide +kernel
theorem dX11_never_130 : decode cX11_never 130 = .ok (.aload_n 0, 1) := by decide +kernel
theorem dX11_never_131 : decode cX11_never 131 = .ok (.getfield 101, 3) := by decide +kernel
theorem dX11_never_134 : decode cX11_never 134 = .ok (.invokevirtual 247, 3) := by decide +kernel
theorem dX11_never_137 : decode cX11_never 137 = .ok (.ireturn, 1) := by decide +kernel
theorem dX11_sets_0 : decode cX11_sets 0 = .ok (.iload_n 1, 1) := by decide +kernel
theorem dX11_sets_1 : decode cX11_sets 1 = .ok (.invokestatic 107, 3) := by decide +kernel
theorem dX11_sets_4 : decode cX11_sets 4 = .ok (.ifCond .ne 5, 3) := by decide +kernel
theorem dX11_sets_7 : decode cX11_sets 7 = .ok (.iconst (-1), 1) := by decide +kernel
theorem dX11_sets_8 : decode cX11_sets 8 = .ok (.ireturn, 1) := by decide +kernel
theorem dX11_sets_9 : decode cX11_sets 9 = .ok (.aload_n 0, 1) := by decide +kernel
theorem dX11_sets_10 : decode cX11_sets 10 = .ok (.getfield 18, 3) := by decide +kernel
theorem dX11_sets_13 : decode cX11_sets 13 = .ok (.iload_n 1, 1) := by decide +kernel
theorem dX11_sets_14 : decode cX11_sets 14 = .ok (.aaload, 1) := by decide +kernel
theorem dX11_sets_15 : decode cX11_sets 15 = .ok (.aload_n 0, 1) := by decide +kernel
theorem dX11_sets_16 : decode cX11_sets 16 = .ok (.getfield 18, 3) := by decide +kernel
theorem dX11_sets_19 : decode cX11_sets 19 = .ok (.iload_n 1, 1) := by decide +kernel
theorem dX11_sets_20 : decode cX11_sets 20 = .ok (.aaload, 1) := by decide +kernel
theorem dX11_sets_21 : decode cX11_sets 21 = .ok (.invokestatic 233, 3) := by decide +kernel
theorem dX11_sets_24 : decode cX11_sets 24 = .ok (.istore_n 2, 1) := by decide +kernel
theorem dX11_sets_25 : decode cX11_sets 25 = .ok (.iload_n 2, 1) := by decide +kernel
theorem dX11_sets_26 : decode cX11_sets 26 = .ok (.ifCond .eq 12, 3) := by decide +kernel
theorem dX11_sets_29 : decode cX11_sets 29 = .ok (.aload_n 0, 1) := by decide +kernel
theorem dX11_sets_30 : decode cX11_sets 30 = .ok (.getfield 12, 3) := by decide +kernel
theorem dX11_sets_33 : decode cX11_sets 33 = .ok (.iload_n 2, 1) := by decide +kernel
theorem dX11_sets_34 : decode cX11_sets 34 = .ok (.invokevirtual 111, 3) := by decide +kernel
theorem dX11_sets_37 : decode cX11_sets 37 = .ok (.ireturn, 1) := by decide +kernel
theorem dX11_sets_38 : decode cX11_sets 38 = .ok (.aload_n 0, 1) := by decide +kernel
theorem dX11_sets_39 : decode cX11_sets 39 = .ok (.getfield 83, 3) := by decide +kernel
theorem dX11_sets_42 : decode cX11_sets 42 = .ok (.getfield 302, 3) := by decide +kernel
theorem dX11_sets_45 : decode cX11_sets 45 = .ok (.ifCond .eq 6, 3) := by decide +kernel
theorem dX11_sets_48 : decode cX11_sets 48 = .ok (.bipush (-6), 2) := by decide +kernel
theorem dX11_sets_50 : decode cX11_sets 50 = .ok (.ireturn, 1) := by decide +kernel
theorem dX11_sets_51 : decode cX11_sets 51 = .ok (.aload_n 0, 1) := by decide +kernel
theorem dX11_sets_52 : decode cX11_sets 52 = .ok (.getfield 18, 3) := by decide +kernel
theorem dX11_sets_55 : decode cX11_sets 55 = .ok (.iload_n 1, 1) := by decide +kernel
theorem dX11_sets_56 : decode cX11_sets 56 = .ok (.aaload, 1) := by decide +kernel
theorem dX11_sets_57 : decode cX11_sets 57 = .ok (.aload_n 0, 1) := by decide +kernel
theorem dX11_sets_58 : decode cX11_sets 58 = .ok (.getfield 101, 3) := by decide +kernel
theorem dX11_sets_61 : decode cX11_sets 61 = .ok (.invokevirtual 240, 3) := by decide +kernel
theorem dX11_sets_64 : decode cX11_sets 64 = .ok (.aload_n 0, 1) := by decide +kernel
theorem dX11_sets_65 : decode cX11_sets 65 = .ok (.getfield 83, 3) := by decide +kernel
theorem dX11_sets_68 : decode cX11_sets 68 = .ok (.aload_n 0, 1) := by decide +kernel
theorem dX11_sets_69 : decode cX11_sets 69 = .ok (.getfield 38, 3) := by decide +kernel
theorem dX11_sets_72 : decode cX11_sets 72 = .ok (.aload_n 0, 1) := by decide +kernel
theorem dX11_sets_73 : decode cX11_sets 73 = .ok (.getfield 48, 3) := by decide +kernel
theorem dX11_sets_76 : decode cX11_sets 76 = .ok (.iconst (-1), 1) := by decide +kernel
theorem dX11_sets_77 : decode cX11_sets 77 = .ok (.invokevirtual 311, 3) := by decide +kernel
theorem dX11_sets_80 : decode cX11_sets 80 = .ok (.aload_n 0, 1) := by decide +kernel
theorem dX11_sets_81 : decode cX11_sets 81 = .ok (.getfield 12, 3) := by decide +kernel
theorem dX11_sets_84 : decode cX11_sets 84 = .ok (.aload_n 0, 1) := by decide +kernel
theorem dX11_sets_85 : decode cX11_sets 85 = .ok (.getfield 83, 3) := by decide +kernel
theorem dX11_sets_88 : decode cX11_sets 88 = .ok (.aload_n 0, 1) := by decide +kernel
theorem dX11_sets_89 : decode cX11_sets 89 = .ok (.getfield 38, 3) := by decide +kernel
theorem dX11_sets_92 : decode cX11_sets 92 = .ok (.aload_n 0, 1) := by decide +kernel
theorem dX11_sets_93 : decode cX11_sets 93 = .ok (.getfield 101, 3) := by decide +kernel
theorem dX11_sets_96 : decode cX11_sets 96 = .ok (.aload_n 0, 1) := by decide +kernel
theorem dX11_sets_97 : decode cX11_sets 97 = .ok (.getfield 55, 3) := by decide +kernel
theorem dX11_sets_100 : decode cX11_sets 100 = .ok (.invokevirtual 339, 3) := by decide +kernel
theorem dX11_sets_103 : decode cX11_sets 103 = .ok (.invokevirtual 132, 3) := by decide +kernel
theorem dX11_sets_106 : decode cX11_sets 106 = .ok (.pop, 1) := by decide +kernel
theorem dX11_sets_107 : decode cX11_sets 107 = .ok (.aload_n 0, 1) := by decide +kernel
theorem dX11_sets_108 : decode cX11_sets 108 = .ok (.getfield 83, 3) := by decide +kernel
theorem dX11_sets_111 : decode cX11_sets 111 = .ok (.aload_n 0, 1) := by decide +kernel
theorem dX11_sets_112 : decode cX11_sets 112 = .ok (.getfield 101, 3) := by decide +kernel
theorem dX11_sets_115 : decode cX11_sets 115 = .ok (.aload_n 0, 1) := by decide +kernel
theorem dX11_sets_116 : decode cX11_sets 116 = .ok (.getfield 55, 3) := by decide +kernel
theorem dX11_sets_119 : decode cX11_sets 119 = .ok (.invokevirtual 343, 3) := by decide +kernel
theorem dX11_sets_122 : decode cX11_sets 122 = .ok (.ireturn, 1) := by decide +kernel
theorem dX11_way_0 : decode cX11_way 0 = .ok (.aload_n 0, 1) := by decide +kernel
theorem dX11_way_1 : decode cX11_way 1 = .ok (.iload_n 1, 1) := by decide +kernel
theorem dX11_way_2 : decode cX11_way 2 = .ok (.invokevirtual 227, 3) := by decide +kernel
theorem dX11_way_5 : decode cX11_way 5 = .ok (.ifCond .eq 11, 3) := by decide +kernel
theorem dX11_way_8 : decode cX11_way 8 = .ok (.aload_n 0, 1) := by decide +kernel
theorem dX11_way_9 : decode cX11_way 9 = .ok (.iload_n 2, 1) := by decide +kernel
theorem dX11_way_10 : decode cX11_way 10 = .ok (.invokevirtual 227, 3) := by decide +kernel
theorem dX11_way_13 : decode cX11_way 13 = .ok (.ifCond .ne 5, 3) := by decide +kernel
theorem dX11_way_16 : decode cX11_way 16 = .ok (.iconst (-1), 1) := by decide +kernel
theorem dX11_way_17 : decode cX11_way 17 = .ok (.ireturn, 1) := by decide +kernel
theorem dX11_way_18 : decode cX11_way 18 = .ok (.aload_n 0, 1) := by decide +kernel
theorem dX11_way_19 : decode cX11_way 19 = .ok (.getfield 61, 3) := by decide +kernel
theorem dX11_way_22 : decode cX11_way 22 = .ok (.iload_n 1, 1) := by decide +kernel
theorem dX11_way_23 : decode cX11_way 23 = .ok (.aaload, 1) := by decide +kernel
theorem dX11_way_24 : decode cX11_way 24 = .ok (.invokevirtual 230, 3) := by decide +kernel
theorem dX11_way_27 : decode cX11_way 27 = .ok (.ifCond .eq 15, 3) := by decide +kernel
theorem dX11_way_30 : decode cX11_way 30 = .ok (.aload_n 0, 1) := by decide +kernel
theorem dX11_way_31 : decode cX11_way 31 = .ok (.getfield 61, 3) := by decide +kernel
theorem dX11_way_34 : decode cX11_way 34 = .ok (.iload_n 2, 1) := by decide +kernel
theorem dX11_way_35 : decode cX11_way 35 = .ok (.aaload, 1) := by decide +kernel
theorem dX11_way_36 : decode cX11_way 36 = .ok (.invokevirtual 230, 3) := by decide +kernel
theorem dX11_way_39 : decode cX11_way 39 = .ok (.ifCond .ne 12, 3) := by decide +kernel
theorem dX11_way_42 : decode cX11_way 42 = .ok (.aload_n 0, 1) := by decide +kernel
theorem dX11_way_43 : decode cX11_way 43 = .ok (.getfield 12, 3) := by decide +kernel
theorem dX11_way_46 : decode cX11_way 46 = .ok (.iconst 3, 1) := by decide +kernel
theorem dX11_way_47 : decode cX11_way 47 = .ok (.invokevirtual 111, 3) := by decide +kernel
theorem dX11_way_50 : decode cX11_way 50 = .ok (.ireturn, 1) := by decide +kernel
theorem dX11_way_51 : decode cX11_way 51 = .ok (.aload_n 0, 1) := by decide +kernel
theorem dX11_way_52 : decode cX11_way 52 = .ok (.getfield 83, 3) := by decide +kernel
theorem dX11_way_55 : decode cX11_way 55 = .ok (.getfield 302, 3) := by decide +kernel
theorem dX11_way_58 : decode cX11_way 58 = .ok (.ifCond .eq 6, 3) := by decide +kernel
theorem dX11_way_61 : decode cX11_way 61 = .ok (.bipush (-6), 2) := by decide +kernel
theorem dX11_way_63 : decode cX11_way 63 = .ok (.ireturn, 1) := by decide +kernel
theorem dX11_way_64 : decode cX11_way 64 = .ok (.aload_n 0, 1) := by decide +kernel
theorem dX11_way_65 : decode cX11_way 65 = .ok (.getfield 90, 3) := by decide +kernel
theorem dX11_way_68 : decode cX11_way 68 = .ok (.aload_n 0, 1) := by decide +kernel
theorem dX11_way_69 : decode cX11_way 69 = .ok (.getfield 83, 3) := by decide +kernel
theorem dX11_way_72 : decode cX11_way 72 = .ok (.aload_n 0, 1) := by decide +kernel
theorem dX11_way_73 : decode cX11_way 73 = .ok (.getfield 55, 3) := by decide +kernel
theorem dX11_way_76 : decode cX11_way 76 = .ok (.invokevirtual 347, 3) := by decide +kernel
theorem dX11_way_79 : decode cX11_way 79 = .ok (.aload_n 0, 1) := by decide +kernel
theorem dX11_way_80 : decode cX11_way 80 = .ok (.getfield 90, 3) := by decide +kernel
theorem dX11_way_83 : decode cX11_way 83 = .ok (.aload_n 0, 1) := by decide +kernel
theorem dX11_way_84 : decode cX11_way 84 = .ok (.getfield 83, 3) := by decide +kernel
theorem dX11_way_87 : decode cX11_way 87 = .ok (.aload_n 0, 1) := by decide +kernel
theorem dX11_way_88 : decode cX11_way 88 = .ok (.getfield 38, 3) := by decide +kernel
theorem dX11_way_91 : decode cX11_way 91 = .ok (.aload_n 0, 1) := by decide +kernel
theorem dX11_way_92 : decode cX11_way 92 = .ok (.iload_n 1, 1) := by decide +kernel
theorem dX11_way_93 : decode cX11_way 93 = .ok (.invokevirtual 351, 3) := by decide +kernel
theorem dX11_way_96 : decode cX11_way 96 = .ok (.aload_n 0, 1) := by decide +kernel
theorem dX11_way_97 : decode cX11_way 97 = .ok (.iload_n 2, 1) := by decide +kernel
theorem dX11_way_98 : decode cX11_way 98 = .ok (.invokevirtual 351, 3) := by decide +kernel
theorem dX11_way_101 : decode cX11_way 101 = .ok (.invokevirtual 354, 3) := by decide +kernel
theorem dX11_way_104 : decode cX11_way 104 = .ok (.ireturn, 1) := by decide +kernel
theorem dX11_unseen_0 : decode cX11_unseen 0 = .ok (.aload_n 0, 1) := by decide +kernel
theorem dX11_unseen_1 : decode cX11_unseen 1 = .ok (.iload_n 1, 1) := by decide +kernel
theorem dX11_unseen_2 : decode cX11_unseen 2 = .ok (.invokevirtual 227, 3) := by decide +kernel
theorem dX11_unseen_5 : decode cX11_unseen 5 = .ok (.ifCond .eq 30, 3) := by decide +kernel
theorem dX11_unseen_8 : decode cX11_unseen 8 = .ok (.aload_n 0, 1) := by decide +kernel
theorem dX11_unseen_9 : decode cX11_unseen 9 = .ok (.iload_n 2, 1) := by decide +kernel
theorem dX11_unseen_10 : decode cX11_unseen 10 = .ok (.invokevirtual 227, 3) := by decide +kernel
theorem dX11_unseen_13 : decode cX11_unseen 13 = .ok (.ifCond .eq 22, 3) := by decide +kernel
theorem dX11_unseen_16 : decode cX11_unseen 16 = .ok (.iload_n 3, 1) := by decide +kernel
theorem dX11_unseen_17 : decode cX11_unseen 17 = .ok (.invokestatic 272, 3) := by decide +kernel
theorem dX11_unseen_20 : decode cX11_unseen 20 = .ok (.ifCond .eq 15, 3) := by decide +kernel
theorem dX11_unseen_23 : decode cX11_unseen 23 = .ok (.iload 4, 2) := by decide +kernel
theorem dX11_unseen_25 : decode cX11_unseen 25 = .ok (.ifCond .lt 10, 3) := by decide +kernel
theorem dX11_unseen_28 : decode cX11_unseen 28 = .ok (.iload 4, 2) := by decide +kernel
theorem dX11_unseen_30 : decode cX11_unseen 30 = .ok (.bipush 120, 2) := by decide +kernel
theorem dX11_unseen_32 : decode cX11_unseen 32 = .ok (.if_icmp .le 5, 3) := by decide +kernel
theorem dX11_unseen_35 : decode cX11_unseen 35 = .ok (.iconst (-1), 1) := by decide +kernel
theorem dX11_unseen_36 : decode cX11_unseen 36 = .ok (.ireturn, 1) := by decide +kernel
theorem dX11_unseen_37 : decode cX11_unseen 37 = .ok (.aload_n 0, 1) := by decide +kernel
theorem dX11_unseen_38 : decode cX11_unseen 38 = .ok (.getfield 61, 3) := by decide +kernel
theorem dX11_unseen_41 : decode cX11_unseen 41 = .ok (.iload_n 1, 1) := by decide +kernel
theorem dX11_unseen_42 : decode cX11_unseen 42 = .ok (.aaload, 1) := by decide +kernel
theorem dX11_unseen_43 : decode cX11_unseen 43 = .ok (.invokevirtual 230, 3) := by decide +kernel
theorem dX11_unseen_46 : decode cX11_unseen 46 = .ok (.ifCond .eq 15, 3) := by decide +kernel
theorem dX11_unseen_49 : decode cX11_unseen 49 = .ok (.aload_n 0, 1) := by decide +kernel
theorem dX11_unseen_50 : decode cX11_unseen 50 = .ok (.getfield 61, 3) := by decide +kernel
theorem dX11_unseen_53 : decode cX11_unseen 53 = .ok (.iload_n 2, 1) := by decide +kernel
theorem dX11_unseen_54 : decode cX11_unseen 54 = .ok (.aaload, 1) := by decide +kernel
theorem dX11_unseen_55 : decode cX11_unseen 55 = .ok (.invokevirtual 230, 3) := by decide +kernel
theorem dX11_unseen_58 : decode cX11_unseen 58 = .ok (.ifCond .ne 12, 3) := by decide +kernel
theorem dX11_unseen_61 : decode cX11_unseen 61 = .ok (.aload_n 0, 1) := by decide +kernel
theorem dX11_unseen_62 : decode cX11_unseen 62 = .ok (.getfield 12, 3) := by decide +kernel
theorem dX11_unseen_65 : decode cX11_unseen 65 = .ok (.iconst 3, 1) := by decide +kernel
theorem dX11_unseen_66 : decode cX11_unseen 66 = .ok (.invokevirtual 111, 3) := by decide +kernel
theorem dX11_unseen_69 : decode cX11_unseen 69 = .ok (.ireturn, 1) := by decide +kernel
theorem dX11_unseen_70 : decode cX11_unseen 70 = .ok (.aload_n 0, 1) := by decide +kernel
theorem dX11_unseen_71 : decode cX11_unseen 71 = .ok (.getfield 68, 3) := by decide +kernel
theorem dX11_unseen_74 : decode cX11_unseen 74 = .ok (.iload_n 3, 1) := by decide +kernel
theorem dX11_unseen_75 : decode cX11_unseen 75 = .ok (.aaload, 1) := by decide +kernel
theorem dX11_unseen_76 : decode cX11_unseen 76 = .ok (.getfield 284, 3) := by decide +kernel
theorem dX11_unseen_79 : decode cX11_unseen 79 = .ok (.ifCond .ne 12, 3) := by decide +kernel
theorem dX11_unseen_82 : decode cX11_unseen 82 = .ok (.aload_n 0, 1) := by decide +kernel
theorem dX11_unseen_83 : decode cX11_unseen 83 = .ok (.getfield 12, 3) := by decide +kernel
theorem dX11_unseen_86 : decode cX11_unseen 86 = .ok (.iconst 1, 1) := by decide +kernel
theorem dX11_unseen_87 : decode cX11_unseen 87 = .ok (.invokevirtual 111, 3) := by decide +kernel
theorem dX11_unseen_90 : decode cX11_unseen 90 = .ok (.ireturn, 1) := by decide +kernel
theorem dX11_unseen_91 : decode cX11_unseen 91 = .ok (.aload_n 0, 1) := by decide +kernel
theorem dX11_unseen_92 : decode cX11_unseen 92 = .ok (.getfield 83, 3) := by decide +kernel
theorem dX11_unseen_95 : decode cX11_unseen 95 = .ok (.getfield 302, 3) := by decide +kernel
theorem dX11_unseen_98 : decode cX11_unseen 98 = .ok (.ifCond .eq 6, 3) := by decide +kernel
theorem dX11_unseen_101 : decode cX11_unseen 101 = .ok (.bipush (-6), 2) := by decide +kernel
theorem dX11_unseen_103 : decode cX11_unseen 103 = .ok (.ireturn, 1) := by decide +kernel
theorem dX11_unseen_104 : decode cX11_unseen 104 = .ok (.aload_n 0, 1) := by decide +kernel
theorem dX11_unseen_105 : decode cX11_unseen 105 = .ok (.getfield 83, 3) := by decide +kernel
theorem dX11_unseen_108 : decode cX11_unseen 108 = .ok (.aload_n 0, 1) := by decide +kernel
theorem dX11_unseen_109 : decode cX11_unseen 109 = .ok (.getfield 38, 3) := by decide +kernel
theorem dX11_unseen_112 : decode cX11_unseen 112 = .ok (.aload_n 0, 1) := by decide +kernel
theorem dX11_unseen_113 : decode cX11_unseen 113 = .ok (.getfield 48, 3) := by decide +kernel
theorem dX11_unseen_116 : decode cX11_unseen 116 = .ok (.iconst (-1), 1) := by decide +kernel
theorem dX11_unseen_117 : decode cX11_unseen 117 = .ok (.invokevirtual 311, 3) := by decide +kernel
theorem dX11_unseen_120 : decode cX11_unseen 120 = .ok (.aload_n 0, 1) := by decide +kernel
theorem dX11_unseen_121 : decode cX11_unseen 121 = .ok (.getfield 90, 3) := by decide +kernel
theorem dX11_unseen_124 : decode cX11_unseen 124 = .ok (.aload_n 0, 1) := by decide +kernel
theorem dX11_unseen_125 : decode cX11_unseen 125 = .ok (.getfield 83, 3) := by decide +kernel
theorem dX11_unseen_128 : decode cX11_unseen 128 = .ok (.aload_n 0, 1) := by decide +kernel
theorem dX11_unseen_129 : decode cX11_unseen 129 = .ok (.getfield 55, 3) := by decide +kernel
theorem dX11_unseen_132 : decode cX11_unseen 132 = .ok (.invokevirtual 347, 3) := by decide +kernel
theorem dX11_unseen_135 : decode cX11_unseen 135 = .ok (.aload_n 0, 1) := by decide +kernel
theorem dX11_unseen_136 : decode cX11_unseen 136 = .ok (.getfield 90, 3) := by decide +kernel
theorem dX11_unseen_139 : decode cX11_unseen 139 = .ok (.aload_n 0, 1) := by decide +kernel
theorem dX11_unseen_140 : decode cX11_unseen 140 = .ok (.getfield 83, 3) := by decide +kernel
theorem dX11_unseen_143 : decode cX11_unseen 143 = .ok (.aload_n 0, 1) := by decide +kernel
theorem dX11_unseen_144 : decode cX11_unseen 144 = .ok (.getfield 68, 3) := by decide +kernel
theorem dX11_unseen_147 : decode cX11_unseen 147 = .ok (.iload_n 3, 1) := by decide +kernel
theorem dX11_unseen_148 : decode cX11_unseen 148 = .ok (.aaload, 1) := by decide +kernel
theorem dX11_unseen_149 : decode cX11_unseen 149 = .ok (.iload 4, 2) := by decide +kernel
theorem dX11_unseen_151 : decode cX11_unseen 151 = .ok (.aload_n 0, 1) := by decide +kernel
theorem dX11_unseen_152 : decode cX11_unseen 152 = .ok (.iload_n 1, 1) := by decide +kernel
theorem dX11_unseen_153 : decode cX11_unseen 153 = .ok (.invokevirtual 351, 3) := by decide +kernel
theorem dX11_unseen_156 : decode cX11_unseen 156 = .ok (.aload_n 0, 1) := by decide +kernel
theorem dX11_unseen_157 : decode cX11_unseen 157 = .ok (.iload_n 2, 1) := by decide +kernel
theorem dX11_unseen_158 : decode cX11_unseen 158 = .ok (.invokevirtual 351, 3) := by decide +kernel
theorem dX11_unseen_161 : decode cX11_unseen 161 = .ok (.invokevirtual 357, 3) := by decide +kernel
theorem dX11_unseen_164 : decode cX11_unseen 164 = .ok (.aload_n 0, 1) := by decide +kernel
theorem dX11_unseen_165 : decode cX11_unseen 165 = .ok (.getfield 90, 3) := by decide +kernel
theorem dX11_unseen_168 : decode cX11_unseen 168 = .ok (.aload_n 0, 1) := by decide +kernel
theorem dX11_unseen_169 : decode cX11_unseen 169 = .ok (.getfield 83, 3) := by decide +kernel
theorem dX11_unseen_172 : decode cX11_unseen 172 = .ok (.aload_n 0, 1) := by decide +kernel
theorem dX11_unseen_173 : decode cX11_unseen 173 = .ok (.getfield 38, 3) := by decide +kernel
theorem dX11_unseen_176 : decode cX11_unseen 176 = .ok (.aload_n 0, 1) := by decide +kernel
theorem dX11_unseen_177 : decode cX11_unseen 177 = .ok (.iload_n 1, 1) := by decide +kernel
theorem dX11_unseen_178 : decode cX11_unseen 178 = .ok (.invokevirtual 351, 3) := by decide +kernel
theorem dX11_unseen_181 : decode cX11_unseen 181 = .ok (.aload_n 0, 1) := by decide +kernel
theorem dX11_unseen_182 : decode cX11_unseen 182 = .ok (.iload_n 2, 1) := by decide +kernel
theorem dX11_unseen_183 : decode cX11_unseen 183 = .ok (.invokevirtual 351, 3) := by decide +kernel
theorem dX11_unseen_186 : decode cX11_unseen 186 = .ok (.invokevirtual 354, 3) := by decide +kernel
theorem dX11_unseen_189 : decode cX11_unseen 189 = .ok (.ireturn, 1) := by decide +kernel
theorem dX11_where_0 : decode cX11_where 0 = .ok (.aload_n 0, 1) := by decide +kernel
theorem dX11_where_1 : decode cX11_where 1 = .ok (.iload_n 1, 1) := by decide +kernel
theorem dX11_where_2 : decode cX11_where 2 = .ok (.invokevirtual 227, 3) := by decide +kernel
theorem dX11_where_5 : decode cX11_where 5 = .ok (.ifCond .eq 10, 3) := by decide +kernel
theorem dX11_where_8 : decode cX11_where 8 = .ok (.iload_n 2, 1) := by decide +kernel
theorem dX11_where_9 : decode cX11_where 9 = .ok (.invokestatic 272, 3) := by decide +kernel
theorem dX11_where_12 : decode cX11_where 12 = .ok (.ifCond .ne 5, 3) := by decide +kernel
theorem dX11_where_15 : decode cX11_where 15 = .ok (.iconst (-1), 1) := by decide +kernel
theorem dX11_where_16 : decode cX11_where 16 = .ok (.ireturn, 1) := by decide +kernel
theorem dX11_where_17 : decode cX11_where 17 = .ok (.aload_n 0, 1) := by decide +kernel
theorem dX11_where_18 : decode cX11_where 18 = .ok (.getfield 68, 3) := by decide +kernel
theorem dX11_where_21 : decode cX11_where 21 = .ok (.iload_n 2, 1) := by decide +kernel
theorem dX11_where_22 : decode cX11_where 22 = .ok (.aaload, 1) := by decide +kernel
theorem dX11_where_23 : decode cX11_where 23 = .ok (.getfield 284, 3) := by decide +kernel
theorem dX11_where_26 : decode cX11_where 26 = .ok (.ifCond .ne 12, 3) := by decide +kernel
theorem dX11_where_29 : decode cX11_where 29 = .ok (.aload_n 0, 1) := by decide +kernel
theorem dX11_where_30 : decode cX11_where 30 = .ok (.getfield 12, 3) := by decide +kernel
theorem dX11_where_33 : decode cX11_where 33 = .ok (.iconst 1, 1) := by decide +kernel
theorem dX11_where_34 : decode cX11_where 34 = .ok (.invokevirtual 111, 3) := by decide +kernel
theorem dX11_where_37 : decode cX11_where 37 = .ok (.ireturn, 1) := by decide +kernel
theorem dX11_where_38 : decode cX11_where 38 = .ok (.bipush (-9), 2) := by decide +kernel
theorem dX11_where_40 : decode cX11_where 40 = .ok (.istore_n 3, 1) := by decide +kernel
theorem dX11_where_41 : decode cX11_where 41 = .ok (.iconst 0, 1) := by decide +kernel
theorem dX11_where_42 : decode cX11_where 42 = .ok (.istore 4, 2) := by decide +kernel
theorem dX11_where_44 : decode cX11_where 44 = .ok (.iconst 0, 1) := by decide +kernel
theorem dX11_where_45 : decode cX11_where 45 = .ok (.istore 5, 2) := by decide +kernel
theorem dX11_where_47 : decode cX11_where 47 = .ok (.iload 5, 2) := by decide +kernel
theorem dX11_where_49 : decode cX11_where 49 = .ok (.bipush 98, 2) := by decide +kernel
theorem dX11_where_51 : decode cX11_where 51 = .ok (.if_icmp .ge 84, 3) := by decide +kernel
theorem dX11_where_54 : decode cX11_where 54 = .ok (.aload_n 0, 1) := by decide +kernel
theorem dX11_where_55 : decode cX11_where 55 = .ok (.getfield 52, 3) := by decide +kernel
theorem dX11_where_58 : decode cX11_where 58 = .ok (.iload 5, 2) := by decide +kernel
theorem dX11_where_60 : decode cX11_where 60 = .ok (.invokevirtual 361, 3) := by decide +kernel
theorem dX11_where_63 : decode cX11_where 63 = .ok (.aload_n 0, 1) := by decide +kernel
theorem dX11_where_64 : decode cX11_where 64 = .ok (.getfield 61, 3) := by decide +kernel
theorem dX11_where_67 : decode cX11_where 67 = .ok (.iload_n 1, 1) := by decide +kernel
theorem dX11_where_68 : decode cX11_where 68 = .ok (.aaload, 1) := by decide +kernel
theorem dX11_where_69 : decode cX11_where 69 = .ok (.aload_n 0, 1) := by decide +kernel
theorem dX11_where_70 : decode cX11_where 70 = .ok (.getfield 52, 3) := by decide +kernel
theorem dX11_where_73 : decode cX11_where 73 = .ok (.aload_n 0, 1) := by decide +kernel
theorem dX11_where_74 : decode cX11_where 74 = .ok (.getfield 97, 3) := by decide +kernel
theorem dX11_where_77 : decode cX11_where 77 = .ok (.invokevirtual 268, 3) := by decide +kernel
theorem dX11_where_80 : decode cX11_where 80 = .ok (.aload_n 0, 1) := by decide +kernel
theorem dX11_where_81 : decode cX11_where 81 = .ok (.getfield 68, 3) := by decide +kernel
theorem dX11_where_84 : decode cX11_where 84 = .ok (.iload_n 2, 1) := by decide +kernel
theorem dX11_where_85 : decode cX11_where 85 = .ok (.aaload, 1) := by decide +kernel
theorem dX11_where_86 : decode cX11_where 86 = .ok (.aload_n 0, 1) := by decide +kernel
theorem dX11_where_87 : decode cX11_where 87 = .ok (.getfield 97, 3) := by decide +kernel
theorem dX11_where_90 : decode cX11_where 90 = .ok (.getfield 288, 3) := by decide +kernel
theorem dX11_where_93 : decode cX11_where 93 = .ok (.aload_n 0, 1) := by decide +kernel
theorem dX11_where_94 : decode cX11_where 94 = .ok (.getfield 97, 3) := by decide +kernel
theorem dX11_where_97 : decode cX11_where 97 = .ok (.getfield 292, 3) := by decide +kernel
theorem dX11_where_100 : decode cX11_where 100 = .ok (.invokevirtual 299, 3) := by decide +kernel
theorem dX11_where_103 : decode cX11_where 103 = .ok (.istore 6, 2) := by decide +kernel
theorem dX11_where_105 : decode cX11_where 105 = .ok (.iload_n 3, 1) := by decide +kernel
theorem dX11_where_106 : decode cX11_where 106 = .ok (.bipush (-9), 2) := by decide +kernel
theorem dX11_where_108 : decode cX11_where 108 = .ok (.if_icmp .eq 9, 3) := by decide +kernel
theorem dX11_where_111 : decode cX11_where 111 = .ok (.iload 6, 2) := by decide +kernel
theorem dX11_where_113 : decode cX11_where 113 = .ok (.iload_n 3, 1) := by decide +kernel
theorem dX11_where_114 : decode cX11_where 114 = .ok (.if_icmp .ge 15, 3) := by decide +kernel
theorem dX11_where_117 : decode cX11_where 117 = .ok (.iload 6, 2) := by decide +kernel
theorem dX11_where_119 : decode cX11_where 119 = .ok (.istore_n 3, 1) := by decide +kernel
theorem dX11_where_120 : decode cX11_where 120 = .ok (.aload_n 0, 1) := by decide +kernel
theorem dX11_where_121 : decode cX11_where 121 = .ok (.getfield 52, 3) := by decide +kernel
theorem dX11_where_124 : decode cX11_where 124 = .ok (.invokevirtual 201, 3) := by decide +kernel
theorem dX11_where_127 : decode cX11_where 127 = .ok (.istore 4, 2) := by decide +kernel
theorem dX11_where_129 : decode cX11_where 129 = .ok (.iinc 5 1, 3) := by decide +kernel
theorem dX11_where_132 : decode cX11_where 132 = .ok (.goto (-85), 3) := by decide +kernel
theorem dX11_where_135 : decode cX11_where 135 = .ok (.aload_n 0, 1) := by decide +kernel
theorem dX11_where_136 : decode cX11_where 136 = .ok (.getfield 12, 3) := by decide +kernel
theorem dX11_where_139 : decode cX11_where 139 = .ok (.iload 4, 2) := by decide +kernel
theorem dX11_where_141 : decode cX11_where 141 = .ok (.invokevirtual 132, 3) := by decide +kernel
theorem dX11_where_144 : decode cX11_where 144 = .ok (.pop, 1) := by decide +kernel
theorem dX11_where_145 : decode cX11_where 145 = .ok (.iload_n 3, 1) := by decide +kernel
theorem dX11_where_146 : decode cX11_where 146 = .ok (.ireturn, 1) := by decide +kernel
theorem dX11_picture_0 : decode cX11_picture 0 = .ok (.iload_n 1, 1) := by decide +kernel
theorem dX11_picture_1 : decode cX11_picture 1 = .ok (.invokestatic 107, 3) := by decide +kernel
theorem dX11_picture_4 : decode cX11_picture 4 = .ok (.ifCond .ne 5, 3) := by decide +kernel
theorem dX11_picture_7 : decode cX11_picture 7 = .ok (.iconst (-1), 1) := by decide +kernel
theorem dX11_picture_8 : decode cX11_picture 8 = .ok (.ireturn, 1) := by decide +kernel
theorem dX11_picture_9 : decode cX11_picture 9 = .ok (.aload_n 0, 1) := by decide +kernel
theorem dX11_picture_10 : decode cX11_picture 10 = .ok (.getfield 18, 3) := by decide +kernel
theorem dX11_picture_13 : decode cX11_picture 13 = .ok (.iload_n 1, 1) := by decide +kernel
theorem dX11_picture_14 : decode cX11_picture 14 = .ok (.aaload, 1) := by decide +kernel
theorem dX11_picture_15 : decode cX11_picture 15 = .ok (.aload_n 0, 1) := by decide +kernel
theorem dX11_picture_16 : decode cX11_picture 16 = .ok (.getfield 18, 3) := by decide +kernel
theorem dX11_picture_19 : decode cX11_picture 19 = .ok (.iload_n 1, 1) := by decide +kernel
theorem dX11_picture_20 : decode cX11_picture 20 = .ok (.aaload, 1) := by decide +kernel
theorem dX11_picture_21 : decode cX11_picture 21 = .ok (.invokestatic 233, 3) := by decide +kernel
theorem dX11_picture_24 : decode cX11_picture 24 = .ok (.istore_n 2, 1) := by decide +kernel
theorem dX11_picture_25 : decode cX11_picture 25 = .ok (.iload_n 2, 1) := by decide +kernel
theorem dX11_picture_26 : decode cX11_picture 26 = .ok (.ifCond .eq 12, 3) := by decide +kernel
theorem dX11_picture_29 : decode cX11_picture 29 = .ok (.aload_n 0, 1) := by decide +kernel
theorem dX11_picture_30 : decode cX11_picture 30 = .ok (.getfield 12, 3) := by decide +kernel
theorem dX11_picture_33 : decode cX11_picture 33 = .ok (.iload_n 2, 1) := by decide +kernel
theorem dX11_picture_34 : decode cX11_picture 34 = .ok (.invokevirtual 111, 3) := by decide +kernel
theorem dX11_picture_37 : decode cX11_picture 37 = .ok (.ireturn, 1) := by decide +kernel
theorem dX11_picture_38 : decode cX11_picture 38 = .ok (.aload_n 0, 1) := by decide +kernel
theorem dX11_picture_39 : decode cX11_picture 39 = .ok (.getfield 83, 3) := by decide +kernel
theorem dX11_picture_42 : decode cX11_picture 42 = .ok (.getfield 302, 3) := by decide +kernel
theorem dX11_picture_45 : decode cX11_picture 45 = .ok (.ifCond .eq 6, 3) := by decide +kernel
theorem dX11_picture_48 : decode cX11_picture 48 = .ok (.bipush (-6), 2) := by decide +kernel
theorem dX11_picture_50 : decode cX11_picture 50 = .ok (.ireturn, 1) := by decide +kernel
theorem dX11_picture_51 : decode cX11_picture 51 = .ok (.aload_n 0, 1) := by decide +kernel
theorem dX11_picture_52 : decode cX11_picture 52 = .ok (.getfield 18, 3) := by decide +kernel
theorem dX11_picture_55 : decode cX11_picture 55 = .ok (.iload_n 1, 1) := by decide +kernel
theorem dX11_picture_56 : decode cX11_picture 56 = .ok (.aaload, 1) := by decide +kernel
theorem dX11_picture_57 : decode cX11_picture 57 = .ok (.aload_n 0, 1) := by decide +kernel
theorem dX11_picture_58 : decode cX11_picture 58 = .ok (.getfield 101, 3) := by decide +kernel
theorem dX11_picture_61 : decode cX11_picture 61 = .ok (.invokevirtual 240, 3) := by decide +kernel
theorem dX11_picture_64 : decode cX11_picture 64 = .ok (.aload_n 0, 1) := by decide +kernel
theorem dX11_picture_65 : decode cX11_picture 65 = .ok (.getfield 83, 3) := by decide +kernel
theorem dX11_picture_68 : decode cX11_picture 68 = .ok (.aload_n 0, 1) := by decide +kernel
theorem dX11_picture_69 : decode cX11_picture 69 = .ok (.getfield 55, 3) := by decide +kernel
theorem dX11_picture_72 : decode cX11_picture 72 = .ok (.aload_n 0, 1) := by decide +kernel
theorem dX11_picture_73 : decode cX11_picture 73 = .ok (.getfield 104, 3) := by decide +kernel
theorem dX11_picture_76 : decode cX11_picture 76 = .ok (.invokevirtual 326, 3) := by decide +kernel
theorem dX11_picture_79 : decode cX11_picture 79 = .ok (.iconst 0, 1) := by decide +kernel
theorem dX11_picture_80 : decode cX11_picture 80 = .ok (.istore_n 3, 1) := by decide +kernel
theorem dX11_picture_81 : decode cX11_picture 81 = .ok (.iload_n 3, 1) := by decide +kernel
theorem dX11_picture_82 : decode cX11_picture 82 = .ok (.bipush 98, 2) := by decide +kernel
theorem dX11_picture_84 : decode cX11_picture 84 = .ok (.if_icmp .ge 50, 3) := by decide +kernel
theorem dX11_picture_87 : decode cX11_picture 87 = .ok (.aload_n 0, 1) := by decide +kernel
theorem dX11_picture_88 : decode cX11_picture 88 = .ok (.getfield 52, 3) := by decide +kernel
theorem dX11_picture_91 : decode cX11_picture 91 = .ok (.iload_n 3, 1) := by decide +kernel
theorem dX11_picture_92 : decode cX11_picture 92 = .ok (.invokevirtual 361, 3) := by decide +kernel
theorem dX11_picture_95 : decode cX11_picture 95 = .ok (.aload_n 0, 1) := by decide +kernel
theorem dX11_picture_96 : decode cX11_picture 96 = .ok (.aload_n 0, 1) := by decide +kernel
theorem dX11_picture_97 : decode cX11_picture 97 = .ok (.getfield 52, 3) := by decide +kernel
theorem dX11_picture_100 : decode cX11_picture 100 = .ok (.invokevirtual 364, 3) := by decide +kernel
theorem dX11_picture_103 : decode cX11_picture 103 = .ok (.istore 4, 2) := by decide +kernel
theorem dX11_picture_105 : decode cX11_picture 105 = .ok (.iload 4, 2) := by decide +kernel
theorem dX11_picture_107 : decode cX11_picture 107 = .ok (.ifCond .le 21, 3) := by decide +kernel
theorem dX11_picture_110 : decode cX11_picture 110 = .ok (.aload_n 0, 1) := by decide +kernel
theorem dX11_picture_111 : decode cX11_picture 111 = .ok (.getfield 12, 3) := by decide +kernel
theorem dX11_picture_114 : decode cX11_picture 114 = .ok (.iload 4, 2) := by decide +kernel
theorem dX11_picture_116 : decode cX11_picture 116 = .ok (.invokevirtual 132, 3) := by decide +kernel
theorem dX11_picture_119 : decode cX11_picture 119 = .ok (.pop, 1) := by decide +kernel
theorem dX11_picture_120 : decode cX11_picture 120 = .ok (.aload_n 0, 1) := by decide +kernel
theorem dX11_picture_121 : decode cX11_picture 121 = .ok (.getfield 52, 3) := by decide +kernel
theorem dX11_picture_124 : decode cX11_picture 124 = .ok (.invokevirtual 201, 3) := by decide +kernel
theorem dX11_picture_127 : decode cX11_picture 127 = .ok (.ireturn, 1) := by decide +kernel
theorem dX11_picture_128 : decode cX11_picture 128 = .ok (.iinc 3 1, 3) := by decide +kernel
theorem dX11_picture_131 : decode cX11_picture 131 = .ok (.goto (-50), 3) := by decide +kernel
theorem dX11_picture_134 : decode cX11_picture 134 = .ok (.bipush (-9), 2) := by decide +kernel
theorem dX11_picture_136 : decode cX11_picture 136 = .ok (.ireturn, 1) := by decide +kernel
theorem dX11_stiff_0 : decode cX11_stiff 0 = .ok (.aload_n 0, 1) := by decide +kernel
theorem dX11_stiff_1 : decode cX11_stiff 1 = .ok (.iload_n 1, 1) := by decide +kernel
theorem dX11_stiff_2 : decode cX11_stiff 2 = .ok (.invokevirtual 186, 3) := by decide +kernel
theorem dX11_stiff_5 : decode cX11_stiff 5 = .ok (.ifCond .eq 10, 3) := by decide +kernel
theorem dX11_stiff_8 : decode cX11_stiff 8 = .ok (.iload_n 2, 1) := by decide +kernel
theorem dX11_stiff_9 : decode cX11_stiff 9 = .ok (.invokestatic 272, 3) := by decide +kernel
theorem dX11_stiff_12 : decode cX11_stiff 12 = .ok (.ifCond .ne 5, 3) := by decide +kernel
theorem dX11_stiff_15 : decode cX11_stiff 15 = .ok (.iconst (-1), 1) := by decide +kernel
theorem dX11_stiff_16 : decode cX11_stiff 16 = .ok (.ireturn, 1) := by decide +kernel
theorem dX11_stiff_17 : decode cX11_stiff 17 = .ok (.aload_n 0, 1) := by decide +kernel
theorem dX11_stiff_18 : decode cX11_stiff 18 = .ok (.getfield 68, 3) := by decide +kernel
theorem dX11_stiff_21 : decode cX11_stiff 21 = .ok (.iload_n 2, 1) := by decide +kernel
theorem dX11_stiff_22 : decode cX11_stiff 22 = .ok (.aaload, 1) := by decide +kernel
theorem dX11_stiff_23 : decode cX11_stiff 23 = .ok (.getfield 284, 3) := by decide +kernel
theorem dX11_stiff_26 : decode cX11_stiff 26 = .ok (.ifCond .ne 12, 3) := by decide +kernel
theorem dX11_stiff_29 : decode cX11_stiff 29 = .ok (.aload_n 0, 1) := by decide +kernel
theorem dX11_stiff_30 : decode cX11_stiff 30 = .ok (.getfield 12, 3) := by decide +kernel
theorem dX11_stiff_33 : decode cX11_stiff 33 = .ok (.iconst 1, 1) := by decide +kernel
theorem dX11_stiff_34 : decode cX11_stiff 34 = .ok (.invokevirtual 111, 3) := by decide +kernel
theorem dX11_stiff_37 : decode cX11_stiff 37 = .ok (.ireturn, 1) := by decide +kernel
theorem dX11_stiff_38 : decode cX11_stiff 38 = .ok (.aload_n 0, 1) := by decide +kernel
theorem dX11_stiff_39 : decode cX11_stiff 39 = .ok (.getfield 83, 3) := by decide +kernel
theorem dX11_stiff_42 : decode cX11_stiff 42 = .ok (.getfield 302, 3) := by decide +kernel
theorem dX11_stiff_45 : decode cX11_stiff 45 = .ok (.ifCond .eq 6, 3) := by decide +kernel
theorem dX11_stiff_48 : decode cX11_stiff 48 = .ok (.bipush (-6), 2) := by decide +kernel
theorem dX11_stiff_50 : decode cX11_stiff 50 = .ok (.ireturn, 1) := by decide +kernel
theorem dX11_stiff_51 : decode cX11_stiff 51 = .ok (.aload_n 0, 1) := by decide +kernel
theorem dX11_stiff_52 : decode cX11_stiff 52 = .ok (.getfield 83, 3) := by decide +kernel
theorem dX11_stiff_55 : decode cX11_stiff 55 = .ok (.aload_n 0, 1) := by decide +kernel
theorem dX11_stiff_56 : decode cX11_stiff 56 = .ok (.getfield 38, 3) := by decide +kernel
theorem dX11_stiff_59 : decode cX11_stiff 59 = .ok (.aload_n 0, 1) := by decide +kernel
theorem dX11_stiff_60 : decode cX11_stiff 60 = .ok (.getfield 48, 3) := by decide +kernel
theorem dX11_stiff_63 : decode cX11_stiff 63 = .ok (.iconst (-1), 1) := by decide +kernel
theorem dX11_stiff_64 : decode cX11_stiff 64 = .ok (.invokevirtual 311, 3) := by decide +kernel
theorem dX11_stiff_67 : decode cX11_stiff 67 = .ok (.aload_n 0, 1) := by decide +kernel
theorem dX11_stiff_68 : decode cX11_stiff 68 = .ok (.getfield 83, 3) := by decide +kernel
theorem dX11_stiff_71 : decode cX11_stiff 71 = .ok (.aload_n 0, 1) := by decide +kernel
theorem dX11_stiff_72 : decode cX11_stiff 72 = .ok (.getfield 38, 3) := by decide +kernel
theorem dX11_stiff_75 : decode cX11_stiff 75 = .ok (.aload_n 0, 1) := by decide +kernel
theorem dX11_stiff_76 : decode cX11_stiff 76 = .ok (.getfield 68, 3) := by decide +kernel
theorem dX11_stiff_79 : decode cX11_stiff 79 = .ok (.iload_n 2, 1) := by decide +kernel
theorem dX11_stiff_80 : decode cX11_stiff 80 = .ok (.aaload, 1) := by decide +kernel
theorem dX11_stiff_81 : decode cX11_stiff 81 = .ok (.aload_n 0, 1) := by decide +kernel
theorem dX11_stiff_82 : decode cX11_stiff 82 = .ok (.getfield 55, 3) := by decide +kernel
theorem dX11_stiff_85 : decode cX11_stiff 85 = .ok (.iload_n 1, 1) := by decide +kernel
theorem dX11_stiff_86 : decode cX11_stiff 86 = .ok (.invokevirtual 396, 3) := by decide +kernel
theorem dX11_stiff_89 : decode cX11_stiff 89 = .ok (.istore_n 3, 1) := by decide +kernel
theorem dX11_stiff_90 : decode cX11_stiff 90 = .ok (.iload_n 3, 1) := by decide +kernel
theorem dX11_stiff_91 : decode cX11_stiff 91 = .ok (.bipush (-9), 2) := by decide +kernel
theorem dX11_stiff_93 : decode cX11_stiff 93 = .ok (.if_icmp .ne 6, 3) := by decide +kernel
theorem dX11_stiff_96 : decode cX11_stiff 96 = .ok (.bipush (-9), 2) := by decide +kernel
theorem dX11_stiff_98 : decode cX11_stiff 98 = .ok (.ireturn, 1) := by decide +kernel
theorem dX11_stiff_99 : decode cX11_stiff 99 = .ok (.aload_n 0, 1) := by decide +kernel
theorem dX11_stiff_100 : decode cX11_stiff 100 = .ok (.getfield 12, 3) := by decide +kernel
theorem dX11_stiff_103 : decode cX11_stiff 103 = .ok (.iload_n 3, 1) := by decide +kernel
theorem dX11_stiff_104 : decode cX11_stiff 104 = .ok (.invokevirtual 132, 3) := by decide +kernel
theorem dX11_stiff_107 : decode cX11_stiff 107 = .ok (.pop, 1) := by decide +kernel
theorem dX11_stiff_108 : decode cX11_stiff 108 = .ok (.iload_n 3, 1) := by decide +kernel
theorem dX11_stiff_109 : decode cX11_stiff 109 = .ok (.aload_n 0, 1) := by decide +kernel
theorem dX11_stiff_110 : decode cX11_stiff 110 = .ok (.getfield 83, 3) := by decide +kernel
theorem dX11_stiff_113 : decode cX11_stiff 113 = .ok (.aload_n 0, 1) := by decide +kernel
theorem dX11_stiff_114 : decode cX11_stiff 114 = .ok (.getfield 38, 3) := by decide +kernel
theorem dX11_stiff_117 : decode cX11_stiff 117 = .ok (.aload_n 0, 1) := by decide +kernel
theorem dX11_stiff_118 : decode cX11_stiff 118 = .ok (.getfield 68, 3) := by decide +kernel
theorem dX11_stiff_121 : decode cX11_stiff 121 = .ok (.iload_n 2, 1) := by decide +kernel
theorem dX11_stiff_122 : decode cX11_stiff 122 = .ok (.aaload, 1) := by decide +kernel
theorem dX11_stiff_123 : decode cX11_stiff 123 = .ok (.aload_n 0, 1) := by decide +kernel
theorem dX11_stiff_124 : decode cX11_stiff 124 = .ok (.getfield 55, 3) := by decide +kernel
theorem dX11_stiff_127 : decode cX11_stiff 127 = .ok (.bipush (-9), 2) := by decide +kernel
theorem dX11_stiff_129 : decode cX11_stiff 129 = .ok (.invokevirtual 396, 3) := by decide +kernel
theorem dX11_stiff_132 : decode cX11_stiff 132 = .ok (.isub, 1) := by decide +kernel
theorem dX11_stiff_133 : decode cX11_stiff 133 = .ok (.ireturn, 1) := by decide +kernel
theorem dX11_asked_0 : decode cX11_asked 0 = .ok (.aload_n 0, 1) := by decide +kernel
theorem dX11_asked_1 : decode cX11_asked 1 = .ok (.getfield 12, 3) := by decide +kernel
theorem dX11_asked_4 : decode cX11_asked 4 = .ok (.getfield 467, 3) := by decide +kernel
theorem dX11_asked_7 : decode cX11_asked 7 = .ok (.ireturn, 1) := by decide +kernel
theorem dX11_isRow_0 : decode cX11_isRow 0 = .ok (.iload_n 0, 1) := by decide +kernel
theorem dX11_isRow_1 : decode cX11_isRow 1 = .ok (.ifCond .lt 13, 3) := by decide +kernel
theorem dX11_isRow_4 : decode cX11_isRow 4 = .ok (.iload_n 0, 1) := by decide +kernel
theorem dX11_isRow_5 : decode cX11_isRow 5 = .ok (.bipush 6, 2) := by decide +kernel
theorem dX11_isRow_7 : decode cX11_isRow 7 = .ok (.if_icmp .ge 7, 3) := by decide +kernel
theorem dX11_isRow_10 : decode cX11_isRow 10 = .ok (.iconst 1, 1) := by decide +kernel
theorem dX11_isRow_11 : decode cX11_isRow 11 = .ok (.goto 4, 3) := by decide +kernel
theorem dX11_isRow_14 : decode cX11_isRow 14 = .ok (.iconst 0, 1) := by decide +kernel
theorem dX11_isRow_15 : decode cX11_isRow 15 = .ok (.ireturn, 1) := by decide +kernel
theorem dX11_isText_0 : decode cX11_isText 0 = .ok (.iload_n 0, 1) := by decide +kernel
theorem dX11_isText_1 : decode cX11_isText 1 = .ok (.ifCond .lt 12, 3) := by decide +kernel
theorem dX11_isText_4 : decode cX11_isText 4 = .ok (.iload_n 0, 1) := by decide +kernel
theorem dX11_isText_5 : decode cX11_isText 5 = .ok (.iconst 4, 1) := by decide +kernel
theorem dX11_isText_6 : decode cX11_isText 6 = .ok (.if_icmp .ge 7, 3) := by decide +kernel
theorem dX11_isText_9 : decode cX11_isText 9 = .ok (.iconst 1, 1) := by decide +kernel
theorem dX11_isText_10 : decode cX11_isText 10 = .ok (.goto 4, 3) := by decide +kernel
theorem dX11_isText_13 : decode cX11_isText 13 = .ok (.iconst 0, 1) := by decide +kernel
theorem dX11_isText_14 : decode cX11_isText 14 = .ok (.ireturn, 1) := by decide +kernel
theorem dX11_isBeast_0 : decode cX11_isBeast 0 = .ok (.iload_n 0, 1) := by decide +kernel
theorem dX11_isBeast_1 : decode cX11_isBeast 1 = .ok (.ifCond .lt 13, 3) := by decide +kernel
theorem dX11_isBeast_4 : decode cX11_isBeast 4 = .ok (.iload_n 0, 1) := by decide +kernel
theorem dX11_isBeast_5 : decode cX11_isBeast 5 = .ok (.bipush 6, 2) := by decide +kernel
theorem dX11_isBeast_7 : decode cX11_isBeast 7 = .ok (.if_icmp .ge 7, 3) := by decide +kernel
theorem dX11_isBeast_10 : decode cX11_isBeast 10 = .ok (.iconst 1, 1) := by decide +kernel
theorem dX11_isBeast_11 : decode cX11_isBeast 11 = .ok (.goto 4, 3) := by decide +kernel
theorem dX11_isBeast_14 : decode cX11_isBeast 14 = .ok (.iconst 0, 1) := by decide +kernel
theorem dX11_isBeast_15 : decode cX11_isBeast 15 = .ok (.ireturn, 1) := by decide +kernel
theorem dX11_isJoint_0 : decode cX11_isJoint 0 = .ok (.iload_n 1, 1) := by decide +kernel
theorem dX11_isJoint_1 : decode cX11_isJoint 1 = .ok (.ifCond .lt 18, 3) := by decide +kernel
theorem dX11_isJoint_4 : decode cX11_isJoint 4 = .ok (.iload_n 1, 1) := by decide +kernel
theorem dX11_isJoint_5 : decode cX11_isJoint 5 = .ok (.aload_n 0, 1) := by decide +kernel
theorem dX11_isJoint_6 : decode cX11_isJoint 6 = .ok (.getfield 38, 3) := by decide +kernel
theorem dX11_isJoint_9 : decode cX11_isJoint 9 = .ok (.getfield 167, 3) := by decide +kernel
theorem dX11_isJoint_12 : decode cX11_isJoint 12 = .ok (.if_icmp .ge 7, 3) := by decide +kernel
theorem dX11_isJoint_15 : decode cX11_isJoint 15 = .ok (.iconst 1, 1) := by decide +kernel
theorem dX11_isJoint_16 : decode cX11_isJoint 16 = .ok (.goto 4, 3) := by decide +kernel
theorem dX11_isJoint_19 : decode cX11_isJoint 19 = .ok (.iconst 0, 1) := by decide +kernel
theorem dX11_isJoint_20 : decode cX11_isJoint 20 = .ok (.ireturn, 1) := by decide +kernel
theorem dX11_isPose_0 : decode cX11_isPose 0 = .ok (.iload_n 1, 1) := by decide +kernel
theorem dX11_isPose_1 : decode cX11_isPose 1 = .ok (.ifCond .lt 15, 3) := by decide +kernel
theorem dX11_isPose_4 : decode cX11_isPose 4 = .ok (.iload_n 1, 1) := by decide +kernel
theorem dX11_isPose_5 : decode cX11_isPose 5 = .ok (.aload_n 0, 1) := by decide +kernel
theorem dX11_isPose_6 : decode cX11_isPose 6 = .ok (.getfield 213, 3) := by decide +kernel
theorem dX11_isPose_9 : decode cX11_isPose 9 = .ok (.if_icmp .ge 7, 3) := by decide +kernel
theorem dX11_isPose_12 : decode cX11_isPose 12 = .ok (.iconst 1, 1) := by decide +kernel
theorem dX11_isPose_13 : decode cX11_isPose 13 = .ok (.goto 4, 3) := by decide +kernel
theorem dX11_isPose_16 : decode cX11_isPose 16 = .ok (.iconst 0, 1) := by decide +kernel
theorem dX11_isPose_17 : decode cX11_isPose 17 = .ok (.ireturn, 1) := by decide +kernel
theorem dX11_shadowFinding_0 : decode cX11_shadowFinding 0 = .ok (.aload_n 0, 1) := by decide +kernel
theorem dX11_shadowFinding_1 : decode cX11_shadowFinding 1 = .ok (.invokevirtual 119, 3) := by decide +kernel
theorem dX11_shadowFinding_4 : decode cX11_shadowFinding 4 = .ok (.ifCond .eq 10, 3) := by decide +kernel
theorem dX11_shadowFinding_7 : decode cX11_shadowFinding 7 = .ok (.aload_n 1, 1) := by decide +kernel
theorem dX11_shadowFinding_8 : decode cX11_shadowFinding 8 = .ok (.invokevirtual 119, 3) := by decide +kernel
theorem dX11_shadowFinding_11 : decode cX11_shadowFinding 11 = .ok (.ifCond .ne 5, 3) := by decide +kernel
theorem dX11_shadowFinding_14 : decode cX11_shadowFinding 14 = .ok (.iconst 1, 1) := by decide +kernel
theorem dX11_shadowFinding_15 : decode cX11_shadowFinding 15 = .ok (.ireturn, 1) := by decide +kernel
theorem dX11_shadowFinding_16 : decode cX11_shadowFinding 16 = .ok (.aload_n 0, 1) := by decide +kernel
theorem dX11_shadowFinding_17 : decode cX11_shadowFinding 17 = .ok (.getfield 146, 3) := by decide +kernel
theorem dX11_shadowFinding_20 : decode cX11_shadowFinding 20 = .ok (.bipush 10, 2) := by decide +kernel
theorem dX11_shadowFinding_22 : decode cX11_shadowFinding 22 = .ok (.if_icmp .ne 12, 3) := by decide +kernel
theorem dX11_shadowFinding_25 : decode cX11_shadowFinding 25 = .ok (.aload_n 1, 1) := by decide +kernel
theorem dX11_shadowFinding_26 : decode cX11_shadowFinding 26 = .ok (.getfield 146, 3) := by decide +kernel
theorem dX11_shadowFinding_29 : decode cX11_shadowFinding 29 = .ok (.bipush 10, 2) := by decide +kernel
theorem dX11_shadowFinding_31 : decode cX11_shadowFinding 31 = .ok (.if_icmp .eq 5, 3) := by decide +kernel
theorem dX11_shadowFinding_34 : decode cX11_shadowFinding 34 = .ok (.iconst 5, 1) := by decide +kernel
theorem dX11_shadowFinding_35 : decode cX11_shadowFinding 35 = .ok (.ireturn, 1) := by decide +kernel
theorem dX11_shadowFinding_36 : decode cX11_shadowFinding 36 = .ok (.aload_n 0, 1) := by decide +kernel
theorem dX11_shadowFinding_37 : decode cX11_shadowFinding 37 = .ok (.invokevirtual 510, 3) := by decide +kernel
theorem dX11_shadowFinding_40 : decode cX11_shadowFinding 40 = .ok (.ifCond .eq 14, 3) := by decide +kernel
theorem dX11_shadowFinding_43 : decode cX11_shadowFinding 43 = .ok (.aload_n 1, 1) := by decide +kernel
theorem dX11_shadowFinding_44 : decode cX11_shadowFinding 44 = .ok (.invokevirtual 510, 3) := by decide +kernel
theorem dX11_shadowFinding_47 : decode cX11_shadowFinding 47 = .ok (.ifCond .eq 7, 3) := by decide +kernel
theorem dX11_shadowFinding_50 : decode cX11_shadowFinding 50 = .ok (.iconst 0, 1) := by decide +kernel
theorem dX11_shadowFinding_51 : decode cX11_shadowFinding 51 = .ok (.goto 4, 3) := by decide +kernel
theorem dX11_shadowFinding_54 : decode cX11_shadowFinding 54 = .ok (.iconst 3, 1) := by decide +kernel
theorem dX11_shadowFinding_55 : decode cX11_shadowFinding 55 = .ok (.ireturn, 1) := by decide +kernel
theorem dX11_dropPoses_0 : decode cX11_dropPoses 0 = .ok (.aload_n 0, 1) := by decide +kernel
theorem dX11_dropPoses_1 : decode cX11_dropPoses 1 = .ok (.getfield 76, 3) := by decide +kernel
theorem dX11_dropPoses_4 : decode cX11_dropPoses 4 = .ok (.iload_n 1, 1) := by decide +kernel
theorem dX11_dropPoses_5 : decode cX11_dropPoses 5 = .ok (.invokevirtual 513, 3) := by decide +kernel
theorem dX11_dropPoses_8 : decode cX11_dropPoses 8 = .ok (.aload_n 0, 1) := by decide +kernel
theorem dX11_dropPoses_9 : decode cX11_dropPoses 9 = .ok (.iload_n 1, 1) := by decide +kernel
theorem dX11_dropPoses_10 : decode cX11_dropPoses 10 = .ok (.putfield 213, 3) := by decide +kernel
theorem dX11_dropPoses_13 : decode cX11_dropPoses 13 = .ok (.return_, 1) := by decide +kernel
theorem dX11_placeOf_0 : decode cX11_placeOf 0 = .ok (.aload_n 0, 1) := by decide +kernel
theorem dX11_placeOf_1 : decode cX11_placeOf 1 = .ok (.getfield 83, 3) := by decide +kernel
theorem dX11_placeOf_4 : decode cX11_placeOf 4 = .ok (.aload_n 0, 1) := by decide +kernel
theorem dX11_placeOf_5 : decode cX11_placeOf 5 = .ok (.getfield 38, 3) := by decide +kernel
theorem dX11_placeOf_8 : decode cX11_placeOf 8 = .ok (.aload_n 0, 1) := by decide +kernel
theorem dX11_placeOf_9 : decode cX11_placeOf 9 = .ok (.getfield 61, 3) := by decide +kernel
theorem dX11_placeOf_12 : decode cX11_placeOf 12 = .ok (.iload_n 1, 1) := by decide +kernel
theorem dX11_placeOf_13 : decode cX11_placeOf 13 = .ok (.aaload, 1) := by decide +kernel
theorem dX11_placeOf_14 : decode cX11_placeOf 14 = .ok (.getfield 253, 3) := by decide +kernel
theorem dX11_placeOf_17 : decode cX11_placeOf 17 = .ok (.invokevirtual 516, 3) := by decide +kernel
theorem dX11_placeOf_20 : decode cX11_placeOf 20 = .ok (.ireturn, 1) := by decide +kernel
theorem dX11_numberThrowingBy_0 : decode cX11_numberThrowingBy 0 = .ok (.aload_n 0, 1) := by decide +kernel
theorem dX11_numberThrowingBy_1 : decode cX11_numberThrowingBy 1 = .ok (.getfield 38, 3) := by decide +kernel
theorem dX11_numberThrowingBy_4 : decode cX11_numberThrowingBy 4 = .ok (.iconst (-1), 1) := by decide +kernel
theorem dX11_numberThrowingBy_5 : decode cX11_numberThrowingBy 5 = .ok (.aload_n 0, 1) := by decide +kernel
theorem dX11_numberThrowingBy_6 : decode cX11_numberThrowingBy 6 = .ok (.getfield 97, 3) := by decide +kernel
theorem dX11_numberThrowingBy_9 : decode cX11_numberThrowingBy 9 = .ok (.invokevirtual 519, 3) := by decide +kernel
theorem dX11_numberThrowingBy_12 : decode cX11_numberThrowingBy 12 = .ok (.pop, 1) := by decide +kernel
theorem dX11_numberThrowingBy_13 : decode cX11_numberThrowingBy 13 = .ok (.aload_n 1, 1) := by decide +kernel
theorem dX11_numberThrowingBy_14 : decode cX11_numberThrowingBy 14 = .ok (.aload_n 0, 1) := by decide +kernel
theorem dX11_numberThrowingBy_15 : decode cX11_numberThrowingBy 15 = .ok (.getfield 97, 3) := by decide +kernel
theorem dX11_numberThrowingBy_18 : decode cX11_numberThrowingBy 18 = .ok (.getfield 288, 3) := by decide +kernel
theorem dX11_numberThrowingBy_21 : decode cX11_numberThrowingBy 21 = .ok (.aload_n 0, 1) := by decide +kernel
theorem dX11_numberThrowingBy_22 : decode cX11_numberThrowingBy 22 = .ok (.getfield 97, 3) := by decide +kernel
theorem dX11_numberThrowingBy_25 : decode cX11_numberThrowingBy 25 = .ok (.getfield 292, 3) := by decide +kernel
theorem dX11_numberThrowingBy_28 : decode cX11_numberThrowingBy 28 = .ok (.aload_n 0, 1) := by decide +kernel
theorem dX11_numberThrowingBy_29 : decode cX11_numberThrowingBy 29 = .ok (.getfield 97, 3) := by decide +kernel
theorem dX11_numberThrowingBy_32 : decode cX11_numberThrowingBy 32 = .ok (.invokevirtual 330, 3) := by decide +kernel
theorem dX11_numberThrowingBy_35 : decode cX11_numberThrowingBy 35 = .ok (.aload_n 0, 1) := by decide +kernel
theorem dX11_numberThrowingBy_36 : decode cX11_numberThrowingBy 36 = .ok (.getfield 101, 3) := by decide +kernel
theorem dX11_numberThrowingBy_39 : decode cX11_numberThrowingBy 39 = .ok (.aload_n 0, 1) := by decide +kernel
theorem dX11_numberThrowingBy_40 : decode cX11_numberThrowingBy 40 = .ok (.getfield 97, 3) := by decide +kernel
theorem dX11_numberThrowingBy_43 : decode cX11_numberThrowingBy 43 = .ok (.invokevirtual 523, 3) := by decide +kernel
theorem dX11_numberThrowingBy_46 : decode cX11_numberThrowingBy 46 = .ok (.ifCond .ne 5, 3) := by decide +kernel
theorem dX11_numberThrowingBy_49 : decode cX11_numberThrowingBy 49 = .ok (.iconst 0, 1) := by decide +kernel
theorem dX11_numberThrowingBy_50 : decode cX11_numberThrowingBy 50 = .ok (.ireturn, 1) := by decide +kernel
theorem dX11_numberThrowingBy_51 : decode cX11_numberThrowingBy 51 = .ok (.aload_n 1, 1) := by decide +kernel
theorem dX11_numberThrowingBy_52 : decode cX11_numberThrowingBy 52 = .ok (.aload_n 0, 1) := by decide +kernel
theorem dX11_numberThrowingBy_53 : decode cX11_numberThrowingBy 53 = .ok (.getfield 104, 3) := by decide +kernel
theorem dX11_numberThrowingBy_56 : decode cX11_numberThrowingBy 56 = .ok (.getfield 288, 3) := by decide +kernel
theorem dX11_numberThrowingBy_59 : decode cX11_numberThrowingBy 59 = .ok (.aload_n 0, 1) := by decide +kernel
theorem dX11_numberThrowingBy_60 : decode cX11_numberThrowingBy 60 = .ok (.getfield 104, 3) := by decide +kernel
theorem dX11_numberThrowingBy_63 : decode cX11_numberThrowingBy 63 = .ok (.getfield 292, 3) := by decide +kernel
theorem dX11_numberThrowingBy_66 : decode cX11_numberThrowingBy 66 = .ok (.aload_n 0, 1) := by decide +kernel
theorem dX11_numberThrowingBy_67 : decode cX11_numberThrowingBy 67 = .ok (.getfield 97, 3) := by decide +kernel
theorem dX11_numberThrowingBy_70 : decode cX11_numberThrowingBy 70 = .ok (.invokevirtual 330, 3) := by decide +kernel
theorem dX11_numberThrowingBy_73 : decode cX11_numberThrowingBy 73 = .ok (.aload_n 0, 1) := by decide +kernel
theorem dX11_numberThrowingBy_74 : decode cX11_numberThrowingBy 74 = .ok (.getfield 97, 3) := by decide +kernel
theorem dX11_numberThrowingBy_77 : decode cX11_numberThrowingBy 77 = .ok (.aload_n 0, 1) := by decide +kernel
theorem dX11_numberThrowingBy_78 : decode cX11_numberThrowingBy 78 = .ok (.getfield 101, 3) := by decide +kernel
theorem dX11_numberThrowingBy_81 : decode cX11_numberThrowingBy 81 = .ok (.invokevirtual 523, 3) := by decide +kernel
theorem dX11_numberThrowingBy_84 : decode cX11_numberThrowingBy 84 = .ok (.ifCond .ne 5, 3) := by decide +kernel
theorem dX11_numberThrowingBy_87 : decode cX11_numberThrowingBy 87 = .ok (.iconst 0, 1) := by decide +kernel
theorem dX11_numberThrowingBy_88 : decode cX11_numberThrowingBy 88 = .ok (.ireturn, 1) := by decide +kernel
theorem dX11_numberThrowingBy_89 : decode cX11_numberThrowingBy 89 = .ok (.aload_n 0, 1) := by decide +kernel
theorem dX11_numberThrowingBy_90 : decode cX11_numberThrowingBy 90 = .ok (.getfield 83, 3) := by decide +kernel
theorem dX11_numberThrowingBy_93 : decode cX11_numberThrowingBy 93 = .ok (.aload_n 0, 1) := by decide +kernel
theorem dX11_numberThrowingBy_94 : decode cX11_numberThrowingBy 94 = .ok (.getfield 38, 3) := by decide +kernel
theorem dX11_numberThrowingBy_97 : decode cX11_numberThrowingBy 97 = .ok (.aload_n 1, 1) := by decide +kernel
theorem dX11_numberThrowingBy_98 : decode cX11_numberThrowingBy 98 = .ok (.iconst (-1), 1) := by decide +kernel
theorem dX11_numberThrowingBy_99 : decode cX11_numberThrowingBy 99 = .ok (.invokevirtual 311, 3) := by decide +kernel
theorem dX11_numberThrowingBy_102 : decode cX11_numberThrowingBy 102 = .ok (.aload_n 0, 1) := by decide +kernel
theorem dX11_numberThrowingBy_103 : decode cX11_numberThrowingBy 103 = .ok (.getfield 83, 3) := by decide +kernel
theorem dX11_numberThrowingBy_106 : decode cX11_numberThrowingBy 106 = .ok (.aload_n 0, 1) := by decide +kernel
theorem dX11_numberThrowingBy_107 : decode cX11_numberThrowingBy 107 = .ok (.getfield 101, 3) := by decide +kernel
theorem dX11_numberThrowingBy_110 : decode cX11_numberThrowingBy 110 = .ok (.aload_n 0, 1) := by decide +kernel
theorem dX11_numberThrowingBy_111 : decode cX11_numberThrowingBy 111 = .ok (.getfield 55, 3) := by decide +kernel
theorem dX11_numberThrowingBy_114 : decode cX11_numberThrowingBy 114 = .ok (.invokevirtual 343, 3) := by decide +kernel
theorem dX11_numberThrowingBy_117 : decode cX11_numberThrowingBy 117 = .ok (.ireturn, 1) := by decide +kernel
theorem dJ6_numberOfTrailingZeros_0f7a4_0 : decode cJ6_numberOfTrailingZeros_0f7a4 0 = .ok (.iload_n 0, 1) := by decide +kernel
theorem dJ6_numberOfTrailingZeros_0f7a4_1 : decode cJ6_numberOfTrailingZeros_0f7a4 1 = .ok (.iconst (-1), 1) := by decide +kernel
theorem dJ6_numberOfTrailingZeros_0f7a4_2 : decode cJ6_numberOfTrailingZeros_0f7a4 2 = .ok (.ixor, 1) := by decide +kernel
theorem dJ6_numberOfTrailingZeros_0f7a4_3 : decode cJ6_numberOfTrailingZeros_0f7a4 3 = .ok (.iload_n 0, 1) := by decide +kernel
theorem dJ6_numberOfTrailingZeros_0f7a4_4 : decode cJ6_numberOfTrailingZeros_0f7a4 4 = .ok (.iconst 1, 1) := by decide +kernel
theorem dJ6_numberOfTrailingZeros_0f7a4_5 : decode cJ6_numberOfTrailingZeros_0f7a4 5 = .ok (.isub, 1) := by decide +kernel
theorem dJ6_numberOfTrailingZeros_0f7a4_6 : decode cJ6_numberOfTrailingZeros_0f7a4 6 = .ok (.iand, 1) := by decide +kernel
theorem dJ6_numberOfTrailingZeros_0f7a4_7 : decode cJ6_numberOfTrailingZeros_0f7a4 7 = .ok (.istore_n 0, 1) := by decide +kernel
theorem dJ6_numberOfTrailingZeros_0f7a4_8 : decode cJ6_numberOfTrailingZeros_0f7a4 8 = .ok (.iload_n 0, 1) := by decide +kernel
theorem dJ6_numberOfTrailingZeros_0f7a4_9 : decode cJ6_numberOfTrailingZeros_0f7a4 9 = .ok (.ifCond .gt 8, 3) := by decide +kernel
theorem dJ6_numberOfTrailingZeros_0f7a4_12 : decode cJ6_numberOfTrailingZeros_0f7a4 12 = .ok (.iload_n 0, 1) := by decide +kernel
theorem dJ6_numberOfTrailingZeros_0f7a4_13 : decode cJ6_numberOfTrailingZeros_0f7a4 13 = .ok (.bipush 32, 2) := by decide +kernel
theorem dJ6_numberOfTrailingZeros_0f7a4_15 : decode cJ6_numberOfTrailingZeros_0f7a4 15 = .ok (.iand, 1) := by decide +kernel
theorem dJ6_numberOfTrailingZeros_0f7a4_16 : decode cJ6_numberOfTrailingZeros_0f7a4 16 = .ok (.ireturn, 1) := by decide +kernel
theorem dJ6_numberOfTrailingZeros_0f7a4_17 : decode cJ6_numberOfTrailingZeros_0f7a4 17 = .ok (.iconst 1, 1) := by decide +kernel
theorem dJ6_numberOfTrailingZeros_0f7a4_18 : decode cJ6_numberOfTrailingZeros_0f7a4 18 = .ok (.istore_n 1, 1) := by decide +kernel
theorem dJ6_numberOfTrailingZeros_0f7a4_19 : decode cJ6_numberOfTrailingZeros_0f7a4 19 = .ok (.iload_n 0, 1) := by decide +kernel
theorem dJ6_numberOfTrailingZeros_0f7a4_20 : decode cJ6_numberOfTrailingZeros_0f7a4 20 = .ok (.ldc_w 264, 3) := by decide +kernel
theorem dJ6_numberOfTrailingZeros_0f7a4_23 : decode cJ6_numberOfTrailingZeros_0f7a4 23 = .ok (.if_icmp .le 11, 3) := by decide +kernel
theorem dJ6_numberOfTrailingZeros_0f7a4_26 : decode cJ6_numberOfTrailingZeros_0f7a4 26 = .ok (.iinc 1 16, 3) := by decide +kernel
theorem dJ6_numberOfTrailingZeros_0f7a4_29 : decode cJ6_numberOfTrailingZeros_0f7a4 29 = .ok (.iload_n 0, 1) := by decide +kernel
theorem dJ6_numberOfTrailingZeros_0f7a4_30 : decode cJ6_numberOfTrailingZeros_0f7a4 30 = .ok (.bipush 16, 2) := by decide +kernel
theorem dJ6_numberOfTrailingZeros_0f7a4_32 : decode cJ6_numberOfTrailingZeros_0f7a4 32 = .ok (.iushr, 1) := by decide +kernel
theorem dJ6_numberOfTrailingZeros_0f7a4_33 : decode cJ6_numberOfTrailingZeros_0f7a4 33 = .ok (.istore_n 0, 1) := by decide +kernel
theorem dJ6_numberOfTrailingZeros_0f7a4_34 : decode cJ6_numberOfTrailingZeros_0f7a4 34 = .ok (.iload_n 0, 1) := by decide +kernel
theorem dJ6_numberOfTrailingZeros_0f7a4_35 : decode cJ6_numberOfTrailingZeros_0f7a4 35 = .ok (.sipush 256, 3) := by decide +kernel
theorem dJ6_numberOfTrailingZeros_0f7a4_38 : decode cJ6_numberOfTrailingZeros_0f7a4 38 = .ok (.if_icmp .le 11, 3) := by decide +kernel
theorem dJ6_numberOfTrailingZeros_0f7a4_41 : decode cJ6_numberOfTrailingZeros_0f7a4 41 = .ok (.iinc 1 8, 3) := by decide +kernel
theorem dJ6_numberOfTrailingZeros_0f7a4_44 : decode cJ6_numberOfTrailingZeros_0f7a4 44 = .ok (.iload_n 0, 1) := by decide +kernel
theorem dJ6_numberOfTrailingZeros_0f7a4_45 : decode cJ6_numberOfTrailingZeros_0f7a4 45 = .ok (.bipush 8, 2) := by decide +kernel
theorem dJ6_numberOfTrailingZeros_0f7a4_47 : decode cJ6_numberOfTrailingZeros_0f7a4 47 = .ok (.iushr, 1) := by decide +kernel
theorem dJ6_numberOfTrailingZeros_0f7a4_48 : decode cJ6_numberOfTrailingZeros_0f7a4 48 = .ok (.istore_n 0, 1) := by decide +kernel
theorem dJ6_numberOfTrailingZeros_0f7a4_49 : decode cJ6_numberOfTrailingZeros_0f7a4 49 = .ok (.iload_n 0, 1) := by decide +kernel
theorem dJ6_numberOfTrailingZeros_0f7a4_50 : decode cJ6_numberOfTrailingZeros_0f7a4 50 = .ok (.bipush 16, 2) := by decide +kernel
theorem dJ6_numberOfTrailingZeros_0f7a4_52 : decode cJ6_numberOfTrailingZeros_0f7a4 52 = .ok (.if_icmp .le 10, 3) := by decide +kernel
theorem dJ6_numberOfTrailingZeros_0f7a4_55 : decode cJ6_numberOfTrailingZeros_0f7a4 55 = .ok (.iinc 1 4, 3) := by decide +kernel
theorem dJ6_numberOfTrailingZeros_0f7a4_58 : decode cJ6_numberOfTrailingZeros_0f7a4 58 = .ok (.iload_n 0, 1) := by decide +kernel
theorem dJ6_numberOfTrailingZeros_0f7a4_59 : decode cJ6_numberOfTrailingZeros_0f7a4 59 = .ok (.iconst 4, 1) := by decide +kernel
theorem dJ6_numberOfTrailingZeros_0f7a4_60 : decode cJ6_numberOfTrailingZeros_0f7a4 60 = .ok (.iushr, 1) := by decide +kernel
theorem dJ6_numberOfTrailingZeros_0f7a4_61 : decode cJ6_numberOfTrailingZeros_0f7a4 61 = .ok (.istore_n 0, 1) := by decide +kernel
theorem dJ6_numberOfTrailingZeros_0f7a4_62 : decode cJ6_numberOfTrailingZeros_0f7a4 62 = .ok (.iload_n 0, 1) := by decide +kernel
theorem dJ6_numberOfTrailingZeros_0f7a4_63 : decode cJ6_numberOfTrailingZeros_0f7a4 63 = .ok (.iconst 4, 1) := by decide +kernel
theorem dJ6_numberOfTrailingZeros_0f7a4_64 : decode cJ6_numberOfTrailingZeros_0f7a4 64 = .ok (.if_icmp .le 10, 3) := by decide +kernel
theorem dJ6_numberOfTrailingZeros_0f7a4_67 : decode cJ6_numberOfTrailingZeros_0f7a4 67 = .ok (.iinc 1 2, 3) := by decide +kernel
theorem dJ6_numberOfTrailingZeros_0f7a4_70 : decode cJ6_numberOfTrailingZeros_0f7a4 70 = .ok (.iload_n 0, 1) := by decide +kernel
theorem dJ6_numberOfTrailingZeros_0f7a4_71 : decode cJ6_numberOfTrailingZeros_0f7a4 71 = .ok (.iconst 2, 1) := by decide +kernel
theorem dJ6_numberOfTrailingZeros_0f7a4_72 : decode cJ6_numberOfTrailingZeros_0f7a4 72 = .ok (.iushr, 1) := by decide +kernel
theorem dJ6_numberOfTrailingZeros_0f7a4_73 : decode cJ6_numberOfTrailingZeros_0f7a4 73 = .ok (.istore_n 0, 1) := by decide +kernel
theorem dJ6_numberOfTrailingZeros_0f7a4_74 : decode cJ6_numberOfTrailingZeros_0f7a4 74 = .ok (.iload_n 1, 1) := by decide +kernel
theorem dJ6_numberOfTrailingZeros_0f7a4_75 : decode cJ6_numberOfTrailingZeros_0f7a4 75 = .ok (.iload_n 0, 1) := by decide +kernel
theorem dJ6_numberOfTrailingZeros_0f7a4_76 : decode cJ6_numberOfTrailingZeros_0f7a4 76 = .ok (.iconst 1, 1) := by decide +kernel
theorem dJ6_numberOfTrailingZeros_0f7a4_77 : decode cJ6_numberOfTrailingZeros_0f7a4 77 = .ok (.iushr, 1) := by decide +kernel
theorem dJ6_numberOfTrailingZeros_0f7a4_78 : decode cJ6_numberOfTrailingZeros_0f7a4 78 = .ok (.iadd, 1) := by decide +kernel
theorem dJ6_numberOfTrailingZeros_0f7a4_79 : decode cJ6_numberOfTrailingZeros_0f7a4 79 = .ok (.ireturn, 1) := by decide +kernel
theorem dJ13_numberOfTrailingZeros_95d88_0 : decode cJ13_numberOfTrailingZeros_95d88 0 = .ok (.lload_n 0, 1) := by decide +kernel
theorem dJ13_numberOfTrailingZeros_95d88_1 : decode cJ13_numberOfTrailingZeros_95d88 1 = .ok (.l2i, 1) := by decide +kernel
theorem dJ13_numberOfTrailingZeros_95d88_2 : decode cJ13_numberOfTrailingZeros_95d88 2 = .ok (.istore_n 2, 1) := by decide +kernel
theorem dJ13_numberOfTrailingZeros_95d88_3 : decode cJ13_numberOfTrailingZeros_95d88 3 = .ok (.iload_n 2, 1) := by decide +kernel
theorem dJ13_numberOfTrailingZeros_95d88_4 : decode cJ13_numberOfTrailingZeros_95d88 4 = .ok (.ifCond .ne 17, 3) := by decide +kernel
theorem dJ13_numberOfTrailingZeros_95d88_7 : decode cJ13_numberOfTrailingZeros_95d88 7 = .ok (.bipush 32, 2) := by decide +kernel
theorem dJ13_numberOfTrailingZeros_95d88_9 : decode cJ13_numberOfTrailingZeros_95d88 9 = .ok (.lload_n 0, 1) := by decide +kernel
theorem dJ13_numberOfTrailingZeros_95d88_10 : decode cJ13_numberOfTrailingZeros_95d88 10 = .ok (.bipush 32, 2) := by decide +kernel
theorem dJ13_numberOfTrailingZeros_95d88_12 : decode cJ13_numberOfTrailingZeros_95d88 12 = .ok (.lushr, 1) := by decide +kernel
theorem dJ13_numberOfTrailingZeros_95d88_13 : decode cJ13_numberOfTrailingZeros_95d88 13 = .ok (.l2i, 1) := by decide +kernel
theorem dJ13_numberOfTrailingZeros_95d88_14 : decode cJ13_numberOfTrailingZeros_95d88 14 = .ok (.invokestatic 311, 3) := by decide +kernel
theorem dJ13_numberOfTrailingZeros_95d88_17 : decode cJ13_numberOfTrailingZeros_95d88 17 = .ok (.iadd, 1) := by decide +kernel
theorem dJ13_numberOfTrailingZeros_95d88_18 : decode cJ13_numberOfTrailingZeros_95d88 18 = .ok (.goto 7, 3) := by decide +kernel
theorem dJ13_numberOfTrailingZeros_95d88_21 : decode cJ13_numberOfTrailingZeros_95d88 21 = .ok (.iload_n 2, 1) := by decide +kernel
theorem dJ13_numberOfTrailingZeros_95d88_22 : decode cJ13_numberOfTrailingZeros_95d88 22 = .ok (.invokestatic 311, 3) := by decide +kernel
theorem dJ13_numberOfTrailingZeros_95d88_25 : decode cJ13_numberOfTrailingZeros_95d88 25 = .ok (.ireturn, 1) := by decide +kernel
theorem dJ13_bitCount_95d88_0 : decode cJ13_bitCount_95d88 0 = .ok (.lload_n 0, 1) := by decide +kernel
theorem dJ13_bitCount_95d88_1 : decode cJ13_bitCount_95d88 1 = .ok (.lload_n 0, 1) := by decide +kernel
theorem dJ13_bitCount_95d88_2 : decode cJ13_bitCount_95d88 2 = .ok (.iconst 1, 1) := by decide +kernel
theorem dJ13_bitCount_95d88_3 : decode cJ13_bitCount_95d88 3 = .ok (.lushr, 1) := by decide +kernel
theorem dJ13_bitCount_95d88_4 : decode cJ13_bitCount_95d88 4 = .ok (.ldc2_w 314, 3) := by decide +kernel
theorem dJ13_bitCount_95d88_7 : decode cJ13_bitCount_95d88 7 = .ok (.land, 1) := by decide +kernel
theorem dJ13_bitCount_95d88_8 : decode cJ13_bitCount_95d88 8 = .ok (.lsub, 1) := by decide +kernel
theorem dJ13_bitCount_95d88_9 : decode cJ13_bitCount_95d88 9 = .ok (.lstore_n 0, 1) := by decide +kernel
theorem dJ13_bitCount_95d88_10 : decode cJ13_bitCount_95d88 10 = .ok (.lload_n 0, 1) := by decide +kernel
theorem dJ13_bitCount_95d88_11 : decode cJ13_bitCount_95d88 11 = .ok (.ldc2_w 316, 3) := by decide +kernel
theorem dJ13_bitCount_95d88_14 : decode cJ13_bitCount_95d88 14 = .ok (.land, 1) := by decide +kernel
theorem dJ13_bitCount_95d88_15 : decode cJ13_bitCount_95d88 15 = .ok (.lload_n 0, 1) := by decide +kernel
theorem dJ13_bitCount_95d88_16 : decode cJ13_bitCount_95d88 16 = .ok (.iconst 2, 1) := by decide +kernel
theorem dJ13_bitCount_95d88_17 : decode cJ13_bitCount_95d88 17 = .ok (.lushr, 1) := by decide +kernel
theorem dJ13_bitCount_95d88_18 : decode cJ13_bitCount_95d88 18 = .ok (.ldc2_w 316, 3) := by decide +kernel
theorem dJ13_bitCount_95d88_21 : decode cJ13_bitCount_95d88 21 = .ok (.land, 1) := by decide +kernel
theorem dJ13_bitCount_95d88_22 : decode cJ13_bitCount_95d88 22 = .ok (.ladd, 1) := by decide +kernel
theorem dJ13_bitCount_95d88_23 : decode cJ13_bitCount_95d88 23 = .ok (.lstore_n 0, 1) := by decide +kernel
theorem dJ13_bitCount_95d88_24 : decode cJ13_bitCount_95d88 24 = .ok (.lload_n 0, 1) := by decide +kernel
theorem dJ13_bitCount_95d88_25 : decode cJ13_bitCount_95d88 25 = .ok (.lload_n 0, 1) := by decide +kernel
theorem dJ13_bitCount_95d88_26 : decode cJ13_bitCount_95d88 26 = .ok (.iconst 4, 1) := by decide +kernel
theorem dJ13_bitCount_95d88_27 : decode cJ13_bitCount_95d88 27 = .ok (.lushr, 1) := by decide +kernel
theorem dJ13_bitCount_95d88_28 : decode cJ13_bitCount_95d88 28 = .ok (.ladd, 1) := by decide +kernel
theorem dJ13_bitCount_95d88_29 : decode cJ13_bitCount_95d88 29 = .ok (.ldc2_w 318, 3) := by decide +kernel
theorem dJ13_bitCount_95d88_32 : decode cJ13_bitCount_95d88 32 = .ok (.land, 1) := by decide +kernel
theorem dJ13_bitCount_95d88_33 : decode cJ13_bitCount_95d88 33 = .ok (.lstore_n 0, 1) := by decide +kernel
theorem dJ13_bitCount_95d88_34 : decode cJ13_bitCount_95d88 34 = .ok (.lload_n 0, 1) := by decide +kernel
theorem dJ13_bitCount_95d88_35 : decode cJ13_bitCount_95d88 35 = .ok (.lload_n 0, 1) := by decide +kernel
theorem dJ13_bitCount_95d88_36 : decode cJ13_bitCount_95d88 36 = .ok (.bipush 8, 2) := by decide +kernel
theorem dJ13_bitCount_95d88_38 : decode cJ13_bitCount_95d88 38 = .ok (.lushr, 1) := by decide +kernel
theorem dJ13_bitCount_95d88_39 : decode cJ13_bitCount_95d88 39 = .ok (.ladd, 1) := by decide +kernel
theorem dJ13_bitCount_95d88_40 : decode cJ13_bitCount_95d88 40 = .ok (.lstore_n 0, 1) := by decide +kernel
theorem dJ13_bitCount_95d88_41 : decode cJ13_bitCount_95d88 41 = .ok (.lload_n 0, 1) := by decide +kernel
theorem dJ13_bitCount_95d88_42 : decode cJ13_bitCount_95d88 42 = .ok (.lload_n 0, 1) := by decide +kernel
theorem dJ13_bitCount_95d88_43 : decode cJ13_bitCount_95d88 43 = .ok (.bipush 16, 2) := by decide +kernel
theorem dJ13_bitCount_95d88_45 : decode cJ13_bitCount_95d88 45 = .ok (.lushr, 1) := by decide +kernel
theorem dJ13_bitCount_95d88_46 : decode cJ13_bitCount_95d88 46 = .ok (.ladd, 1) := by decide +kernel
theorem dJ13_bitCount_95d88_47 : decode cJ13_bitCount_95d88 47 = .ok (.lstore_n 0, 1) := by decide +kernel
theorem dJ13_bitCount_95d88_48 : decode cJ13_bitCount_95d88 48 = .ok (.lload_n 0, 1) := by decide +kernel
theorem dJ13_bitCount_95d88_49 : decode cJ13_bitCount_95d88 49 = .ok (.lload_n 0, 1) := by decide +kernel
theorem dJ13_bitCount_95d88_50 : decode cJ13_bitCount_95d88 50 = .ok (.bipush 32, 2) := by decide +kernel
theorem dJ13_bitCount_95d88_52 : decode cJ13_bitCount_95d88 52 = .ok (.lushr, 1) := by decide +kernel
theorem dJ13_bitCount_95d88_53 : decode cJ13_bitCount_95d88 53 = .ok (.ladd, 1) := by decide +kernel
theorem dJ13_bitCount_95d88_54 : decode cJ13_bitCount_95d88 54 = .ok (.lstore_n 0, 1) := by decide +kernel
theorem dJ13_bitCount_95d88_55 : decode cJ13_bitCount_95d88 55 = .ok (.lload_n 0, 1) := by decide +kernel
theorem dJ13_bitCount_95d88_56 : decode cJ13_bitCount_95d88 56 = .ok (.l2i, 1) := by decide +kernel
theorem dJ13_bitCount_95d88_57 : decode cJ13_bitCount_95d88 57 = .ok (.bipush 127, 2) := by decide +kernel
theorem dJ13_bitCount_95d88_59 : decode cJ13_bitCount_95d88 59 = .ok (.iand, 1) := by decide +kernel
theorem dJ13_bitCount_95d88_60 : decode cJ13_bitCount_95d88 60 = .ok (.ireturn, 1) := by decide +kernel
theorem dJ9_abs_0f7a4_0 : decode cJ9_abs_0f7a4 0 = .ok (.iload_n 0, 1) := by decide +kernel
theorem dJ9_abs_0f7a4_1 : decode cJ9_abs_0f7a4 1 = .ok (.ifCond .ge 8, 3) := by decide +kernel
theorem dJ9_abs_0f7a4_4 : decode cJ9_abs_0f7a4 4 = .ok (.iload_n 0, 1) := by decide +kernel
theorem dJ9_abs_0f7a4_5 : decode cJ9_abs_0f7a4 5 = .ok (.ineg, 1) := by decide +kernel
theorem dJ9_abs_0f7a4_6 : decode cJ9_abs_0f7a4 6 = .ok (.goto 4, 3) := by decide +kernel
theorem dJ9_abs_0f7a4_9 : decode cJ9_abs_0f7a4 9 = .ok (.iload_n 0, 1) := by decide +kernel
theorem dJ9_abs_0f7a4_10 : decode cJ9_abs_0f7a4 10 = .ok (.ireturn, 1) := by decide +kernel
theorem dJ9_max_7cf53_0 : decode cJ9_max_7cf53 0 = .ok (.iload_n 0, 1) := by decide +kernel
theorem dJ9_max_7cf53_1 : decode cJ9_max_7cf53 1 = .ok (.iload_n 1, 1) := by decide +kernel
theorem dJ9_max_7cf53_2 : decode cJ9_max_7cf53 2 = .ok (.if_icmp .lt 7, 3) := by decide +kernel
theorem dJ9_max_7cf53_5 : decode cJ9_max_7cf53 5 = .ok (.iload_n 0, 1) := by decide +kernel
theorem dJ9_max_7cf53_6 : decode cJ9_max_7cf53 6 = .ok (.goto 4, 3) := by decide +kernel
theorem dJ9_max_7cf53_9 : decode cJ9_max_7cf53 9 = .ok (.iload_n 1, 1) := by decide +kernel
theorem dJ9_max_7cf53_10 : decode cJ9_max_7cf53 10 = .ok (.ireturn, 1) := by decide +kernel
theorem dJ9_min_7cf53_0 : decode cJ9_min_7cf53 0 = .ok (.iload_n 0, 1) := by decide +kernel
theorem dJ9_min_7cf53_1 : decode cJ9_min_7cf53 1 = .ok (.iload_n 1, 1) := by decide +kernel
theorem dJ9_min_7cf53_2 : decode cJ9_min_7cf53 2 = .ok (.if_icmp .gt 7, 3) := by decide +kernel
theorem dJ9_min_7cf53_5 : decode cJ9_min_7cf53 5 = .ok (.iload_n 0, 1) := by decide +kernel
theorem dJ9_min_7cf53_6 : decode cJ9_min_7cf53 6 = .ok (.goto 4, 3) := by decide +kernel
theorem dJ9_min_7cf53_9 : decode cJ9_min_7cf53 9 = .ok (.iload_n 1, 1) := by decide +kernel
theorem dJ9_min_7cf53_10 : decode cJ9_min_7cf53 10 = .ok (.ireturn, 1) := by decide +kernel
theorem dL_cell_0 : decode cL_cell 0 = .ok (.iload_n 1, 1) := by decide +kernel
theorem dL_cell_1 : decode cL_cell 1 = .ok (.aload_n 0, 1) := by decide +kernel
theorem dL_cell_2 : decode cL_cell 2 = .ok (.arraylength, 1) := by decide +kernel
theorem dL_cell_3 : decode cL_cell 3 = .ok (.if_icmp .ge 12, 3) := by decide +kernel
theorem dL_cell_6 : decode cL_cell 6 = .ok (.aload_n 0, 1) := by decide +kernel
theorem dL_cell_7 : decode cL_cell 7 = .ok (.iload_n 1, 1) := by decide +kernel
theorem dL_cell_8 : decode cL_cell 8 = .ok (.iaload, 1) := by decide +kernel
theorem dL_cell_9 : decode cL_cell 9 = .ok (.ldc 7, 2) := by decide +kernel
theorem dL_cell_11 : decode cL_cell 11 = .ok (.iand, 1) := by decide +kernel
theorem dL_cell_12 : decode cL_cell 12 = .ok (.goto 14, 3) := by decide +kernel
theorem dL_cell_15 : decode cL_cell 15 = .ok (.bipush 61, 2) := by decide +kernel
theorem dL_cell_17 : decode cL_cell 17 = .ok (.iload_n 1, 1) := by decide +kernel
theorem dL_cell_18 : decode cL_cell 18 = .ok (.imul, 1) := by decide +kernel
theorem dL_cell_19 : decode cL_cell 19 = .ok (.bipush 7, 2) := by decide +kernel
theorem dL_cell_21 : decode cL_cell 21 = .ok (.iadd, 1) := by decide +kernel
theorem dL_cell_22 : decode cL_cell 22 = .ok (.iload_n 1, 1) := by decide +kernel
theorem dL_cell_23 : decode cL_cell 23 = .ok (.iconst 3, 1) := by decide +kernel
theorem dL_cell_24 : decode cL_cell 24 = .ok (.iadd, 1) := by decide +kernel
theorem dL_cell_25 : decode cL_cell 25 = .ok (.imul, 1) := by decide +kernel
theorem dL_cell_26 : decode cL_cell 26 = .ok (.ireturn, 1) := by decide +kernel
theorem dL_put_0 : decode cL_put 0 = .ok (.iload_n 1, 1) := by decide +kernel
theorem dL_put_1 : decode cL_put 1 = .ok (.ifCond .lt 22, 3) := by decide +kernel
theorem dL_put_4 : decode cL_put 4 = .ok (.aload_n 0, 1) := by decide +kernel
theorem dL_put_5 : decode cL_put 5 = .ok (.iconst 3, 1) := by decide +kernel
theorem dL_put_6 : decode cL_put 6 = .ok (.iload_n 1, 1) := by decide +kernel
theorem dL_put_7 : decode cL_put 7 = .ok (.iload_n 2, 1) := by decide +kernel
theorem dL_put_8 : decode cL_put 8 = .ok (.invokevirtual 8, 3) := by decide +kernel
theorem dL_put_11 : decode cL_put 11 = .ok (.sipush 1032, 3) := by decide +kernel
theorem dL_put_14 : decode cL_put 14 = .ok (.if_icmp .ne 9, 3) := by decide +kernel
theorem dL_put_17 : decode cL_put 17 = .ok (.iload_n 1, 1) := by decide +kernel
theorem dL_put_18 : decode cL_put 18 = .ok (.iconst 1, 1) := by decide +kernel
theorem dL_put_19 : decode cL_put 19 = .ok (.iadd, 1) := by decide +kernel
theorem dL_put_20 : decode cL_put 20 = .ok (.goto 6, 3) := by decide +kernel
theorem dL_put_23 : decode cL_put 23 = .ok (.sipush (-1000), 3) := by decide +kernel
theorem dL_put_26 : decode cL_put 26 = .ok (.ireturn, 1) := by decide +kernel
theorem dL_number_0 : decode cL_number 0 = .ok (.iload_n 2, 1) := by decide +kernel
theorem dL_number_1 : decode cL_number 1 = .ok (.bipush 100, 2) := by decide +kernel
theorem dL_number_3 : decode cL_number 3 = .ok (.if_icmp .ge 7, 3) := by decide +kernel
theorem dL_number_6 : decode cL_number 6 = .ok (.iload_n 1, 1) := by decide +kernel
theorem dL_number_7 : decode cL_number 7 = .ok (.goto 15, 3) := by decide +kernel
theorem dL_number_10 : decode cL_number 10 = .ok (.aload_n 0, 1) := by decide +kernel
theorem dL_number_11 : decode cL_number 11 = .ok (.iload_n 1, 1) := by decide +kernel
theorem dL_number_12 : decode cL_number 12 = .ok (.bipush 48, 2) := by decide +kernel
theorem dL_number_14 : decode cL_number 14 = .ok (.iload_n 2, 1) := by decide +kernel
theorem dL_number_15 : decode cL_number 15 = .ok (.bipush 100, 2) := by decide +kernel
theorem dL_number_17 : decode cL_number 17 = .ok (.idiv, 1) := by decide +kernel
theorem dL_number_18 : decode cL_number 18 = .ok (.iadd, 1) := by decide +kernel
theorem dL_number_19 : decode cL_number 19 = .ok (.invokestatic 14, 3) := by decide +kernel
theorem dL_number_22 : decode cL_number 22 = .ok (.istore_n 3, 1) := by decide +kernel
theorem dL_number_23 : decode cL_number 23 = .ok (.iload_n 2, 1) := by decide +kernel
theorem dL_number_24 : decode cL_number 24 = .ok (.bipush 10, 2) := by decide +kernel
theorem dL_number_26 : decode cL_number 26 = .ok (.if_icmp .ge 7, 3) := by decide +kernel
theorem dL_number_29 : decode cL_number 29 = .ok (.iload_n 3, 1) := by decide +kernel
theorem dL_number_30 : decode cL_number 30 = .ok (.goto 18, 3) := by decide +kernel
theorem dL_number_33 : decode cL_number 33 = .ok (.aload_n 0, 1) := by decide +kernel
theorem dL_number_34 : decode cL_number 34 = .ok (.iload_n 3, 1) := by decide +kernel
theorem dL_number_35 : decode cL_number 35 = .ok (.bipush 48, 2) := by decide +kernel
theorem dL_number_37 : decode cL_number 37 = .ok (.iload_n 2, 1) := by decide +kernel
theorem dL_number_38 : decode cL_number 38 = .ok (.bipush 10, 2) := by decide +kernel
theorem dL_number_40 : decode cL_number 40 = .ok (.idiv, 1) := by decide +kernel
theorem dL_number_41 : decode cL_number 41 = .ok (.bipush 10, 2) := by decide +kernel
theorem dL_number_43 : decode cL_number 43 = .ok (.irem, 1) := by decide +kernel
theorem dL_number_44 : decode cL_number 44 = .ok (.iadd, 1) := by decide +kernel
theorem dL_number_45 : decode cL_number 45 = .ok (.invokestatic 14, 3) := by decide +kernel
theorem dL_number_48 : decode cL_number 48 = .ok (.istore_n 3, 1) := by decide +kernel
theorem dL_number_49 : decode cL_number 49 = .ok (.aload_n 0, 1) := by decide +kernel
theorem dL_number_50 : decode cL_number 50 = .ok (.iload_n 3, 1) := by decide +kernel
theorem dL_number_51 : decode cL_number 51 = .ok (.bipush 48, 2) := by decide +kernel
theorem dL_number_53 : decode cL_number 53 = .ok (.iload_n 2, 1) := by decide +kernel
theorem dL_number_54 : decode cL_number 54 = .ok (.bipush 10, 2) := by decide +kernel
theorem dL_number_56 : decode cL_number 56 = .ok (.irem, 1) := by decide +kernel
theorem dL_number_57 : decode cL_number 57 = .ok (.iadd, 1) := by decide +kernel
theorem dL_number_58 : decode cL_number 58 = .ok (.invokestatic 14, 3) := by decide +kernel
theorem dL_number_61 : decode cL_number 61 = .ok (.ireturn, 1) := by decide +kernel
theorem dL_numbers_0 : decode cL_numbers 0 = .ok (.aload_n 3, 1) := by decide +kernel
theorem dL_numbers_1 : decode cL_numbers 1 = .ok (.iconst 0, 1) := by decide +kernel
theorem dL_numbers_2 : decode cL_numbers 2 = .ok (.iconst 1, 1) := by decide +kernel
theorem dL_numbers_3 : decode cL_numbers 3 = .ok (.aload_n 0, 1) := by decide +kernel
theorem dL_numbers_4 : decode cL_numbers 4 = .ok (.iload_n 1, 1) := by decide +kernel
theorem dL_numbers_5 : decode cL_numbers 5 = .ok (.invokestatic 19, 3) := by decide +kernel
theorem dL_numbers_8 : decode cL_numbers 8 = .ok (.iconst 2, 1) := by decide +kernel
theorem dL_numbers_9 : decode cL_numbers 9 = .ok (.irem, 1) := by decide +kernel
theorem dL_numbers_10 : decode cL_numbers 10 = .ok (.iadd, 1) := by decide +kernel
theorem dL_numbers_11 : decode cL_numbers 11 = .ok (.iastore, 1) := by decide +kernel
theorem dL_numbers_12 : decode cL_numbers 12 = .ok (.aload_n 3, 1) := by decide +kernel
theorem dL_numbers_13 : decode cL_numbers 13 = .ok (.iconst 3, 1) := by decide +kernel
theorem dL_numbers_14 : decode cL_numbers 14 = .ok (.iconst 0, 1) := by decide +kernel
theorem dL_numbers_15 : decode cL_numbers 15 = .ok (.iastore, 1) := by decide +kernel
theorem dL_numbers_16 : decode cL_numbers 16 = .ok (.aload_n 3, 1) := by decide +kernel
theorem dL_numbers_17 : decode cL_numbers 17 = .ok (.iconst 4, 1) := by decide +kernel
theorem dL_numbers_18 : decode cL_numbers 18 = .ok (.iconst 0, 1) := by decide +kernel
theorem dL_numbers_19 : decode cL_numbers 19 = .ok (.iastore, 1) := by decide +kernel
theorem dL_numbers_20 : decode cL_numbers 20 = .ok (.iconst 0, 1) := by decide +kernel
theorem dL_numbers_21 : decode cL_numbers 21 = .ok (.istore 4, 2) := by decide +kernel
theorem dL_numbers_23 : decode cL_numbers 23 = .ok (.iload 4, 2) := by decide +kernel
theorem dL_numbers_25 : decode cL_numbers 25 = .ok (.aload_n 3, 1) := by decide +kernel
theorem dL_numbers_26 : decode cL_numbers 26 = .ok (.iconst 0, 1) := by decide +kernel
theorem dL_numbers_27 : decode cL_numbers 27 = .ok (.iaload, 1) := by decide +kernel
theorem dL_numbers_28 : decode cL_numbers 28 = .ok (.if_icmp .ge 278, 3) := by decide +kernel
theorem dL_numbers_31 : decode cL_numbers 31 = .ok (.aload_n 0, 1) := by decide +kernel
theorem dL_numbers_32 : decode cL_numbers 32 = .ok (.iload_n 1, 1) := by decide +kernel
theorem dL_numbers_33 : decode cL_numbers 33 = .ok (.iconst 1, 1) := by decide +kernel
theorem dL_numbers_34 : decode cL_numbers 34 = .ok (.iadd, 1) := by decide +kernel
theorem dL_numbers_35 : decode cL_numbers 35 = .ok (.iload 4, 2) := by decide +kernel
theorem dL_numbers_37 : decode cL_numbers 37 = .ok (.iadd, 1) := by decide +kernel
theorem dL_numbers_38 : decode cL_numbers 38 = .ok (.invokestatic 19, 3) := by decide +kernel
theorem dL_numbers_41 : decode cL_numbers 41 = .ok (.istore 5, 2) := by decide +kernel
theorem dL_numbers_43 : decode cL_numbers 43 = .ok (.aload_n 3, 1) := by decide +kernel
theorem dL_numbers_44 : decode cL_numbers 44 = .ok (.iconst 1, 1) := by decide +kernel
theorem dL_numbers_45 : decode cL_numbers 45 = .ok (.iload 4, 2) := by decide +kernel
theorem dL_numbers_47 : decode cL_numbers 47 = .ok (.iadd, 1) := by decide +kernel
theorem dL_numbers_48 : decode cL_numbers 48 = .ok (.bipush 12, 2) := by decide +kernel
theorem dL_numbers_50 : decode cL_numbers 50 = .ok (.iconst 2, 1) := by decide +kernel
theorem dL_numbers_51 : decode cL_numbers 51 = .ok (.iload 5, 2) := by decide +kernel
theorem dL_numbers_53 : decode cL_numbers 53 = .ok (.bipush 6, 2) := by decide +kernel
theorem dL_numbers_55 : decode cL_numbers 55 = .ok (.irem, 1) := by decide +kernel
theorem dL_numbers_56 : decode cL_numbers 56 = .ok (.iadd, 1) := by decide +kernel
theorem dL_numbers_57 : decode cL_numbers 57 = .ok (.imul, 1) := by decide +kernel
theorem dL_numbers_58 : decode cL_numbers 58 = .ok (.iconst 1, 1) := by decide +kernel
theorem dL_numbers_59 : decode cL_numbers 59 = .ok (.iadd, 1) := by decide +kernel
theorem dL_numbers_60 : decode cL_numbers 60 = .ok (.iconst 5, 1) := by decide +kernel
theorem dL_numbers_61 : decode cL_numbers 61 = .ok (.iload 4, 2) := by decide +kernel
theorem dL_numbers_63 : decode cL_numbers 63 = .ok (.imul, 1) := by decide +kernel
theorem dL_numbers_64 : decode cL_numbers 64 = .ok (.iadd, 1) := by decide +kernel
theorem dL_numbers_65 : decode cL_numbers 65 = .ok (.iload 5, 2) := by decide +kernel
theorem dL_numbers_67 : decode cL_numbers 67 = .ok (.bipush 8, 2) := by decide +kernel
theorem dL_numbers_69 : decode cL_numbers 69 = .ok (.idiv, 1) := by decide +kernel
theorem dL_numbers_70 : decode cL_numbers 70 = .ok (.iconst 5, 1) := by decide +kernel
theorem dL_numbers_71 : decode cL_numbers 71 = .ok (.irem, 1) := by decide +kernel
theorem dL_numbers_72 : decode cL_numbers 72 = .ok (.iadd, 1) := by decide +kernel
theorem dL_numbers_73 : decode cL_numbers 73 = .ok (.iastore, 1) := by decide +kernel
theorem dL_numbers_74 : decode cL_numbers 74 = .ok (.iconst 1, 1) := by decide +kernel
theorem dL_numbers_75 : decode cL_numbers 75 = .ok (.iload 5, 2) := by decide +kernel
theorem dL_numbers_77 : decode cL_numbers 77 = .ok (.bipush 64, 2) := by decide +kernel
theorem dL_numbers_79 : decode cL_numbers 79 = .ok (.idiv, 1) := by decide +kernel
theorem dL_numbers_80 : decode cL_numbers 80 = .ok (.iconst 2, 1) := by decide +kernel
theorem dL_numbers_81 : decode cL_numbers 81 = .ok (.irem, 1) := by decide +kernel
theorem dL_numbers_82 : decode cL_numbers 82 = .ok (.iadd, 1) := by decide +kernel
theorem dL_numbers_83 : decode cL_numbers 83 = .ok (.istore 6, 2) := by decide +kernel
theorem dL_numbers_85 : decode cL_numbers 85 = .ok (.iconst 0, 1) := by decide +kernel
theorem dL_numbers_86 : decode cL_numbers 86 = .ok (.istore 7, 2) := by decide +kernel
theorem dL_numbers_88 : decode cL_numbers 88 = .ok (.iload 7, 2) := by decide +kernel
theorem dL_numbers_90 : decode cL_numbers 90 = .ok (.iload 6, 2) := by decide +kernel
theorem dL_numbers_92 : decode cL_numbers 92 = .ok (.if_icmp .ge 208, 3) := by decide +kernel
theorem dL_numbers_95 : decode cL_numbers 95 = .ok (.aload_n 0, 1) := by decide +kernel
theorem dL_numbers_96 : decode cL_numbers 96 = .ok (.iload_n 1, 1) := by decide +kernel
theorem dL_numbers_97 : decode cL_numbers 97 = .ok (.iconst 4, 1) := by decide +kernel
theorem dL_numbers_98 : decode cL_numbers 98 = .ok (.iadd, 1) := by decide +kernel
theorem dL_numbers_99 : decode cL_numbers 99 = .ok (.iconst 2, 1) := by decide +kernel
theorem dL_numbers_100 : decode cL_numbers 100 = .ok (.iload 4, 2) := by decide +kernel
theorem dL_numbers_102 : decode cL_numbers 102 = .ok (.imul, 1) := by decide +kernel
theorem dL_numbers_103 : decode cL_numbers 103 = .ok (.iadd, 1) := by decide +kernel
theorem dL_numbers_104 : decode cL_numbers 104 = .ok (.iload 7, 2) := by decide +kernel
theorem dL_numbers_106 : decode cL_numbers 106 = .ok (.iadd, 1) := by decide +kernel
theorem dL_numbers_107 : decode cL_numbers 107 = .ok (.invokestatic 19, 3) := by decide +kernel
theorem dL_numbers_110 : decode cL_numbers 110 = .ok (.istore 8, 2) := by decide +kernel
theorem dL_numbers_112 : decode cL_numbers 112 = .ok (.bipush 8, 2) := by decide +kernel
theorem dL_numbers_114 : decode cL_numbers 114 = .ok (.iconst 4, 1) := by decide +kernel
theorem dL_numbers_115 : decode cL_numbers 115 = .ok (.aload_n 3, 1) := by decide +kernel
theorem dL_numbers_116 : decode cL_numbers 116 = .ok (.iconst 3, 1) := by decide +kernel
theorem dL_numbers_117 : decode cL_numbers 117 = .ok (.iaload, 1) := by decide +kernel
theorem dL_numbers_118 : decode cL_numbers 118 = .ok (.imul, 1) := by decide +kernel
theorem dL_numbers_119 : decode cL_numbers 119 = .ok (.iadd, 1) := by decide +kernel
theorem dL_numbers_120 : decode cL_numbers 120 = .ok (.istore 9, 2) := by decide +kernel
theorem dL_numbers_122 : decode cL_numbers 122 = .ok (.aload_n 3, 1) := by decide +kernel
theorem dL_numbers_123 : decode cL_numbers 123 = .ok (.iload 9, 2) := by decide +kernel
theorem dL_numbers_125 : decode cL_numbers 125 = .ok (.iload 4, 2) := by decide +kernel
theorem dL_numbers_127 : decode cL_numbers 127 = .ok (.iastore, 1) := by decide +kernel
theorem dL_numbers_128 : decode cL_numbers 128 = .ok (.aload_n 3, 1) := by decide +kernel
theorem dL_numbers_129 : decode cL_numbers 129 = .ok (.iload 9, 2) := by decide +kernel
theorem dL_numbers_131 : decode cL_numbers 131 = .ok (.iconst 1, 1) := by decide +kernel
theorem dL_numbers_132 : decode cL_numbers 132 = .ok (.iadd, 1) := by decide +kernel
theorem dL_numbers_133 : decode cL_numbers 133 = .ok (.iload 8, 2) := by decide +kernel
theorem dL_numbers_135 : decode cL_numbers 135 = .ok (.bipush 8, 2) := by decide +kernel
theorem dL_numbers_137 : decode cL_numbers 137 = .ok (.irem, 1) := by decide +kernel
theorem dL_numbers_138 : decode cL_numbers 138 = .ok (.iastore, 1) := by decide +kernel
theorem dL_numbers_139 : decode cL_numbers 139 = .ok (.aload_n 3, 1) := by decide +kernel
theorem dL_numbers_140 : decode cL_numbers 140 = .ok (.iload 9, 2) := by decide +kernel
theorem dL_numbers_142 : decode cL_numbers 142 = .ok (.iconst 2, 1) := by decide +kernel
theorem dL_numbers_143 : decode cL_numbers 143 = .ok (.iadd, 1) := by decide +kernel
theorem dL_numbers_144 : decode cL_numbers 144 = .ok (.aload_n 3, 1) := by decide +kernel
theorem dL_numbers_145 : decode cL_numbers 145 = .ok (.iconst 4, 1) := by decide +kernel
theorem dL_numbers_146 : decode cL_numbers 146 = .ok (.iaload, 1) := by decide +kernel
theorem dL_numbers_147 : decode cL_numbers 147 = .ok (.iastore, 1) := by decide +kernel
theorem dL_numbers_148 : decode cL_numbers 148 = .ok (.aload_n 3, 1) := by decide +kernel
theorem dL_numbers_149 : decode cL_numbers 149 = .ok (.iload 9, 2) := by decide +kernel
theorem dL_numbers_151 : decode cL_numbers 151 = .ok (.iconst 3, 1) := by decide +kernel
theorem dL_numbers_152 : decode cL_numbers 152 = .ok (.iadd, 1) := by decide +kernel
theorem dL_numbers_153 : decode cL_numbers 153 = .ok (.iload 8, 2) := by decide +kernel
theorem dL_numbers_155 : decode cL_numbers 155 = .ok (.bipush 8, 2) := by decide +kernel
theorem dL_numbers_157 : decode cL_numbers 157 = .ok (.idiv, 1) := by decide +kernel
theorem dL_numbers_158 : decode cL_numbers 158 = .ok (.iconst 3, 1) := by decide +kernel
theorem dL_numbers_159 : decode cL_numbers 159 = .ok (.irem, 1) := by decide +kernel
theorem dL_numbers_160 : decode cL_numbers 160 = .ok (.iastore, 1) := by decide +kernel
theorem dL_numbers_161 : decode cL_numbers 161 = .ok (.aload_n 3, 1) := by decide +kernel
theorem dL_numbers_162 : decode cL_numbers 162 = .ok (.iload 9, 2) := by decide +kernel
theorem dL_numbers_164 : decode cL_numbers 164 = .ok (.iconst 3, 1) := by decide +kernel
theorem dL_numbers_165 : decode cL_numbers 165 = .ok (.iadd, 1) := by decide +kernel
theorem dL_numbers_166 : decode cL_numbers 166 = .ok (.aload_n 3, 1) := by decide +kernel
theorem dL_numbers_167 : decode cL_numbers 167 = .ok (.iload 9, 2) := by decide +kernel
theorem dL_numbers_169 : decode cL_numbers 169 = .ok (.iconst 3, 1) := by decide +kernel
theorem dL_numbers_170 : decode cL_numbers 170 = .ok (.iadd, 1) := by decide +kernel
theorem dL_numbers_171 : decode cL_numbers 171 = .ok (.iaload, 1) := by decide +kernel
theorem dL_numbers_172 : decode cL_numbers 172 = .ok (.aload_n 3, 1) := by decide +kernel
theorem dL_numbers_173 : decode cL_numbers 173 = .ok (.iconst 4, 1) := by decide +kernel
theorem dL_numbers_174 : decode cL_numbers 174 = .ok (.iaload, 1) := by decide +kernel
theorem dL_numbers_175 : decode cL_numbers 175 = .ok (.iadd, 1) := by decide +kernel
theorem dL_numbers_176 : decode cL_numbers 176 = .ok (.iload_n 2, 1) := by decide +kernel
theorem dL_numbers_177 : decode cL_numbers 177 = .ok (.if_icmp .le 11, 3) := by decide +kernel
theorem dL_numbers_180 : decode cL_numbers 180 = .ok (.iload_n 2, 1) := by decide +kernel
theorem dL_numbers_181 : decode cL_numbers 181 = .ok (.aload_n 3, 1) := by decide +kernel
theorem dL_numbers_182 : decode cL_numbers 182 = .ok (.iconst 4, 1) := by decide +kernel
theorem dL_numbers_183 : decode cL_numbers 183 = .ok (.iaload, 1) := by decide +kernel
theorem dL_numbers_184 : decode cL_numbers 184 = .ok (.isub, 1) := by decide +kernel
theorem dL_numbers_185 : decode cL_numbers 185 = .ok (.goto 9, 3) := by decide +kernel
theorem dL_numbers_188 : decode cL_numbers 188 = .ok (.aload_n 3, 1) := by decide +kernel
theorem dL_numbers_189 : decode cL_numbers 189 = .ok (.iload 9, 2) := by decide +kernel
theorem dL_numbers_191 : decode cL_numbers 191 = .ok (.iconst 3, 1) := by decide +kernel
theorem dL_numbers_192 : decode cL_numbers 192 = .ok (.iadd, 1) := by decide +kernel
theorem dL_numbers_193 : decode cL_numbers 193 = .ok (.iaload, 1) := by decide +kernel
theorem dL_numbers_194 : decode cL_numbers 194 = .ok (.iastore, 1) := by decide +kernel
theorem dL_numbers_195 : decode cL_numbers 195 = .ok (.iconst 0, 1) := by decide +kernel
theorem dL_numbers_196 : decode cL_numbers 196 = .ok (.istore 10, 2) := by decide +kernel
theorem dL_numbers_198 : decode cL_numbers 198 = .ok (.iload 10, 2) := by decide +kernel
theorem dL_numbers_200 : decode cL_numbers 200 = .ok (.aload_n 3, 1) := by decide +kernel
theorem dL_numbers_201 : decode cL_numbers 201 = .ok (.iload 9, 2) := by decide +kernel
theorem dL_numbers_203 : decode cL_numbers 203 = .ok (.iconst 3, 1) := by decide +kernel
theorem dL_numbers_204 : decode cL_numbers 204 = .ok (.iadd, 1) := by decide +kernel
theorem dL_numbers_205 : decode cL_numbers 205 = .ok (.iaload, 1) := by decide +kernel
theorem dL_numbers_206 : decode cL_numbers 206 = .ok (.if_icmp .ge 81, 3) := by decide +kernel
theorem dL_numbers_209 : decode cL_numbers 209 = .ok (.aload_n 0, 1) := by decide +kernel
theorem dL_numbers_210 : decode cL_numbers 210 = .ok (.iload_n 1, 1) := by decide +kernel
theorem dL_numbers_211 : decode cL_numbers 211 = .ok (.bipush 10, 2) := by decide +kernel
theorem dL_numbers_213 : decode cL_numbers 213 = .ok (.iadd, 1) := by decide +kernel
theorem dL_numbers_214 : decode cL_numbers 214 = .ok (.aload_n 3, 1) := by decide +kernel
theorem dL_numbers_215 : decode cL_numbers 215 = .ok (.iconst 4, 1) := by decide +kernel
theorem dL_numbers_216 : decode cL_numbers 216 = .ok (.iaload, 1) := by decide +kernel
theorem dL_numbers_217 : decode cL_numbers 217 = .ok (.iadd, 1) := by decide +kernel
theorem dL_numbers_218 : decode cL_numbers 218 = .ok (.invokestatic 19, 3) := by decide +kernel
theorem dL_numbers_221 : decode cL_numbers 221 = .ok (.istore 11, 2) := by decide +kernel
theorem dL_numbers_223 : decode cL_numbers 223 = .ok (.aload_n 3, 1) := by decide +kernel
theorem dL_numbers_224 : decode cL_numbers 224 = .ok (.bipush 40, 2) := by decide +kernel
theorem dL_numbers_226 : decode cL_numbers 226 = .ok (.iconst 3, 1) := by decide +kernel
theorem dL_numbers_227 : decode cL_numbers 227 = .ok (.aload_n 3, 1) := by decide +kernel
theorem dL_numbers_228 : decode cL_numbers 228 = .ok (.iconst 4, 1) := by decide +kernel
theorem dL_numbers_229 : decode cL_numbers 229 = .ok (.iaload, 1) := by decide +kernel
theorem dL_numbers_230 : decode cL_numbers 230 = .ok (.imul, 1) := by decide +kernel
theorem dL_numbers_231 : decode cL_numbers 231 = .ok (.iadd, 1) := by decide +kernel
theorem dL_numbers_232 : decode cL_numbers 232 = .ok (.aload_n 3, 1) := by decide +kernel
theorem dL_numbers_233 : decode cL_numbers 233 = .ok (.iconst 3, 1) := by decide +kernel
theorem dL_numbers_234 : decode cL_numbers 234 = .ok (.iaload, 1) := by decide +kernel
theorem dL_numbers_235 : decode cL_numbers 235 = .ok (.iastore, 1) := by decide +kernel
theorem dL_numbers_236 : decode cL_numbers 236 = .ok (.aload_n 3, 1) := by decide +kernel
theorem dL_numbers_237 : decode cL_numbers 237 = .ok (.bipush 41, 2) := by decide +kernel
theorem dL_numbers_239 : decode cL_numbers 239 = .ok (.iconst 3, 1) := by decide +kernel
theorem dL_numbers_240 : decode cL_numbers 240 = .ok (.aload_n 3, 1) := by decide +kernel
theorem dL_numbers_241 : decode cL_numbers 241 = .ok (.iconst 4, 1) := by decide +kernel
theorem dL_numbers_242 : decode cL_numbers 242 = .ok (.iaload, 1) := by decide +kernel
theorem dL_numbers_243 : decode cL_numbers 243 = .ok (.imul, 1) := by decide +kernel
theorem dL_numbers_244 : decode cL_numbers 244 = .ok (.iadd, 1) := by decide +kernel
theorem dL_numbers_245 : decode cL_numbers 245 = .ok (.iload 11, 2) := by decide +kernel
theorem dL_numbers_247 : decode cL_numbers 247 = .ok (.iconst 3, 1) := by decide +kernel
theorem dL_numbers_248 : decode cL_numbers 248 = .ok (.irem, 1) := by decide +kernel
theorem dL_numbers_249 : decode cL_numbers 249 = .ok (.iastore, 1) := by decide +kernel
theorem dL_numbers_250 : decode cL_numbers 250 = .ok (.aload_n 3, 1) := by decide +kernel
theorem dL_numbers_251 : decode cL_numbers 251 = .ok (.bipush 42, 2) := by decide +kernel
theorem dL_numbers_253 : decode cL_numbers 253 = .ok (.iconst 3, 1) := by decide +kernel
theorem dL_numbers_254 : decode cL_numbers 254 = .ok (.aload_n 3, 1) := by decide +kernel
theorem dL_numbers_255 : decode cL_numbers 255 = .ok (.iconst 4, 1) := by decide +kernel
theorem dL_numbers_256 : decode cL_numbers 256 = .ok (.iaload, 1) := by decide +kernel
theorem dL_numbers_257 : decode cL_numbers 257 = .ok (.imul, 1) := by decide +kernel
theorem dL_numbers_258 : decode cL_numbers 258 = .ok (.iadd, 1) := by decide +kernel
theorem dL_numbers_259 : decode cL_numbers 259 = .ok (.iload 11, 2) := by decide +kernel
theorem dL_numbers_261 : decode cL_numbers 261 = .ok (.iconst 4, 1) := by decide +kernel
theorem dL_numbers_262 : decode cL_numbers 262 = .ok (.idiv, 1) := by decide +kernel
theorem dL_numbers_263 : decode cL_numbers 263 = .ok (.iconst 2, 1) := by decide +kernel
theorem dL_numbers_264 : decode cL_numbers 264 = .ok (.irem, 1) := by decide +kernel
theorem dL_numbers_265 : decode cL_numbers 265 = .ok (.iload 11, 2) := by decide +kernel
theorem dL_numbers_267 : decode cL_numbers 267 = .ok (.bipush 8, 2) := by decide +kernel
theorem dL_numbers_269 : decode cL_numbers 269 = .ok (.idiv, 1) := by decide +kernel
theorem dL_numbers_270 : decode cL_numbers 270 = .ok (.iconst 2, 1) := by decide +kernel
theorem dL_numbers_271 : decode cL_numbers 271 = .ok (.irem, 1) := by decide +kernel
theorem dL_numbers_272 : decode cL_numbers 272 = .ok (.iadd, 1) := by decide +kernel
theorem dL_numbers_273 : decode cL_numbers 273 = .ok (.iastore, 1) := by decide +kernel
theorem dL_numbers_274 : decode cL_numbers 274 = .ok (.aload_n 3, 1) := by decide +kernel
theorem dL_numbers_275 : decode cL_numbers 275 = .ok (.iconst 4, 1) := by decide +kernel
theorem dL_numbers_276 : decode cL_numbers 276 = .ok (.dup2, 1) := by decide +kernel
theorem dL_numbers_277 : decode cL_numbers 277 = .ok (.iaload, 1) := by decide +kernel
theorem dL_numbers_278 : decode cL_numbers 278 = .ok (.iconst 1, 1) := by decide +kernel
theorem dL_numbers_279 : decode cL_numbers 279 = .ok (.iadd, 1) := by decide +kernel
theorem dL_numbers_280 : decode cL_numbers 280 = .ok (.iastore, 1) := by decide +kernel
theorem dL_numbers_281 : decode cL_numbers 281 = .ok (.iinc 10 1, 3) := by decide +kernel
theorem dL_numbers_284 : decode cL_numbers 284 = .ok (.goto (-86), 3) := by decide +kernel
theorem dL_numbers_287 : decode cL_numbers 287 = .ok (.aload_n 3, 1) := by decide +kernel
theorem dL_numbers_288 : decode cL_numbers 288 = .ok (.iconst 3, 1) := by decide +kernel
theorem dL_numbers_289 : decode cL_numbers 289 = .ok (.dup2, 1) := by decide +kernel
theorem dL_numbers_290 : decode cL_numbers 290 = .ok (.iaload, 1) := by decide +kernel
theorem dL_numbers_291 : decode cL_numbers 291 = .ok (.iconst 1, 1) := by decide +kernel
theorem dL_numbers_292 : decode cL_numbers 292 = .ok (.iadd, 1) := by decide +kernel
theorem dL_numbers_293 : decode cL_numbers 293 = .ok (.iastore, 1) := by decide +kernel
theorem dL_numbers_294 : decode cL_numbers 294 = .ok (.iinc 7 1, 3) := by decide +kernel
theorem dL_numbers_297 : decode cL_numbers 297 = .ok (.goto (-209), 3) := by decide +kernel
theorem dL_numbers_300 : decode cL_numbers 300 = .ok (.iinc 4 1, 3) := by decide +kernel
theorem dL_numbers_303 : decode cL_numbers 303 = .ok (.goto (-280), 3) := by decide +kernel
theorem dL_numbers_306 : decode cL_numbers 306 = .ok (.return_, 1) := by decide +kernel
theorem dL_hands_0 : decode cL_hands 0 = .ok (.aload_n 0, 1) := by decide +kernel
theorem dL_hands_1 : decode cL_hands 1 = .ok (.iconst 3, 1) := by decide +kernel
theorem dL_hands_2 : decode cL_hands 2 = .ok (.bipush 60, 2) := by decide +kernel
theorem dL_hands_4 : decode cL_hands 4 = .ok (.invokevirtual 23, 3) := by decide +kernel
theorem dL_hands_7 : decode cL_hands 7 = .ok (.bipush 60, 2) := by decide +kernel
theorem dL_hands_9 : decode cL_hands 9 = .ok (.if_icmp .eq 5, 3) := by decide +kernel
theorem dL_hands_12 : decode cL_hands 12 = .ok (.iconst 0, 1) := by decide +kernel
theorem dL_hands_13 : decode cL_hands 13 = .ok (.ireturn, 1) := by decide +kernel
theorem dL_hands_14 : decode cL_hands 14 = .ok (.iconst 0, 1) := by decide +kernel
theorem dL_hands_15 : decode cL_hands 15 = .ok (.istore_n 2, 1) := by decide +kernel
theorem dL_hands_16 : decode cL_hands 16 = .ok (.iconst 0, 1) := by decide +kernel
theorem dL_hands_17 : decode cL_hands 17 = .ok (.istore_n 3, 1) := by decide +kernel
theorem dL_hands_18 : decode cL_hands 18 = .ok (.iload_n 3, 1) := by decide +kernel
theorem dL_hands_19 : decode cL_hands 19 = .ok (.aload_n 1, 1) := by decide +kernel
theorem dL_hands_20 : decode cL_hands 20 = .ok (.iconst 0, 1) := by decide +kernel
theorem dL_hands_21 : decode cL_hands 21 = .ok (.iaload, 1) := by decide +kernel
theorem dL_hands_22 : decode cL_hands 22 = .ok (.if_icmp .ge 155, 3) := by decide +kernel
theorem dL_hands_25 : decode cL_hands 25 = .ok (.aload_n 0, 1) := by decide +kernel
theorem dL_hands_26 : decode cL_hands 26 = .ok (.aload_n 0, 1) := by decide +kernel
theorem dL_hands_27 : decode cL_hands 27 = .ok (.iload_n 2, 1) := by decide +kernel
theorem dL_hands_28 : decode cL_hands 28 = .ok (.bipush 104, 2) := by decide +kernel
theorem dL_hands_30 : decode cL_hands 30 = .ok (.invokestatic 14, 3) := by decide +kernel
theorem dL_hands_33 : decode cL_hands 33 = .ok (.aload_n 1, 1) := by decide +kernel
theorem dL_hands_34 : decode cL_hands 34 = .ok (.iconst 1, 1) := by decide +kernel
theorem dL_hands_35 : decode cL_hands 35 = .ok (.iload_n 3, 1) := by decide +kernel
theorem dL_hands_36 : decode cL_hands 36 = .ok (.iadd, 1) := by decide +kernel
theorem dL_hands_37 : decode cL_hands 37 = .ok (.iaload, 1) := by decide +kernel
theorem dL_hands_38 : decode cL_hands 38 = .ok (.invokestatic 27, 3) := by decide +kernel
theorem dL_hands_41 : decode cL_hands 41 = .ok (.istore_n 2, 1) := by decide +kernel
theorem dL_hands_42 : decode cL_hands 42 = .ok (.iconst 0, 1) := by decide +kernel
theorem dL_hands_43 : decode cL_hands 43 = .ok (.istore 4, 2) := by decide +kernel
theorem dL_hands_45 : decode cL_hands 45 = .ok (.iload 4, 2) := by decide +kernel
theorem dL_hands_47 : decode cL_hands 47 = .ok (.aload_n 1, 1) := by decide +kernel
theorem dL_hands_48 : decode cL_hands 48 = .ok (.iconst 3, 1) := by decide +kernel
theorem dL_hands_49 : decode cL_hands 49 = .ok (.iaload, 1) := by decide +kernel
theorem dL_hands_50 : decode cL_hands 50 = .ok (.if_icmp .ge 121, 3) := by decide +kernel
theorem dL_hands_53 : decode cL_hands 53 = .ok (.aload_n 1, 1) := by decide +kernel
theorem dL_hands_54 : decode cL_hands 54 = .ok (.bipush 8, 2) := by decide +kernel
theorem dL_hands_56 : decode cL_hands 56 = .ok (.iconst 4, 1) := by decide +kernel
theorem dL_hands_57 : decode cL_hands 57 = .ok (.iload 4, 2) := by decide +kernel
theorem dL_hands_59 : decode cL_hands 59 = .ok (.imul, 1) := by decide +kernel
theorem dL_hands_60 : decode cL_hands 60 = .ok (.iadd, 1) := by decide +kernel
theorem dL_hands_61 : decode cL_hands 61 = .ok (.iaload, 1) := by decide +kernel
theorem dL_hands_62 : decode cL_hands 62 = .ok (.iload_n 3, 1) := by decide +kernel
theorem dL_hands_63 : decode cL_hands 63 = .ok (.if_icmp .ne 102, 3) := by decide +kernel
theorem dL_hands_66 : decode cL_hands 66 = .ok (.aload_n 0, 1) := by decide +kernel
theorem dL_hands_67 : decode cL_hands 67 = .ok (.aload_n 0, 1) := by decide +kernel
theorem dL_hands_68 : decode cL_hands 68 = .ok (.iload_n 2, 1) := by decide +kernel
theorem dL_hands_69 : decode cL_hands 69 = .ok (.bipush 102, 2) := by decide +kernel
theorem dL_hands_71 : decode cL_hands 71 = .ok (.invokestatic 14, 3) := by decide +kernel
theorem dL_hands_74 : decode cL_hands 74 = .ok (.bipush 48, 2) := by decide +kernel
theorem dL_hands_76 : decode cL_hands 76 = .ok (.aload_n 1, 1) := by decide +kernel
theorem dL_hands_77 : decode cL_hands 77 = .ok (.bipush 9, 2) := by decide +kernel
theorem dL_hands_79 : decode cL_hands 79 = .ok (.iconst 4, 1) := by decide +kernel
theorem dL_hands_80 : decode cL_hands 80 = .ok (.iload 4, 2) := by decide +kernel
theorem dL_hands_82 : decode cL_hands 82 = .ok (.imul, 1) := by decide +kernel
theorem dL_hands_83 : decode cL_hands 83 = .ok (.iadd, 1) := by decide +kernel
theorem dL_hands_84 : decode cL_hands 84 = .ok (.iaload, 1) := by decide +kernel
theorem dL_hands_85 : decode cL_hands 85 = .ok (.iadd, 1) := by decide +kernel
theorem dL_hands_86 : decode cL_hands 86 = .ok (.invokestatic 14, 3) := by decide +kernel
theorem dL_hands_89 : decode cL_hands 89 = .ok (.istore_n 2, 1) := by decide +kernel
theorem dL_hands_90 : decode cL_hands 90 = .ok (.aload_n 1, 1) := by decide +kernel
theorem dL_hands_91 : decode cL_hands 91 = .ok (.bipush 10, 2) := by decide +kernel
theorem dL_hands_93 : decode cL_hands 93 = .ok (.iconst 4, 1) := by decide +kernel
theorem dL_hands_94 : decode cL_hands 94 = .ok (.iload 4, 2) := by decide +kernel
theorem dL_hands_96 : decode cL_hands 96 = .ok (.imul, 1) := by decide +kernel
theorem dL_hands_97 : decode cL_hands 97 = .ok (.iadd, 1) := by decide +kernel
theorem dL_hands_98 : decode cL_hands 98 = .ok (.iaload, 1) := by decide +kernel
theorem dL_hands_99 : decode cL_hands 99 = .ok (.istore 5, 2) := by decide +kernel
theorem dL_hands_101 : decode cL_hands 101 = .ok (.iload 5, 2) := by decide +kernel
theorem dL_hands_103 : decode cL_hands 103 = .ok (.aload_n 1, 1) := by decide +kernel
theorem dL_hands_104 : decode cL_hands 104 = .ok (.bipush 10, 2) := by decide +kernel
theorem dL_hands_106 : decode cL_hands 106 = .ok (.iconst 4, 1) := by decide +kernel
theorem dL_hands_107 : decode cL_hands 107 = .ok (.iload 4, 2) := by decide +kernel
theorem dL_hands_109 : decode cL_hands 109 = .ok (.imul, 1) := by decide +kernel
theorem dL_hands_110 : decode cL_hands 110 = .ok (.iadd, 1) := by decide +kernel
theorem dL_hands_111 : decode cL_hands 111 = .ok (.iaload, 1) := by decide +kernel
theorem dL_hands_112 : decode cL_hands 112 = .ok (.aload_n 1, 1) := by decide +kernel
theorem dL_hands_113 : decode cL_hands 113 = .ok (.bipush 11, 2) := by decide +kernel
theorem dL_hands_115 : decode cL_hands 115 = .ok (.iconst 4, 1) := by decide +kernel
theorem dL_hands_116 : decode cL_hands 116 = .ok (.iload 4, 2) := by decide +kernel
theorem dL_hands_118 : decode cL_hands 118 = .ok (.imul, 1) := by decide +kernel
theorem dL_hands_119 : decode cL_hands 119 = .ok (.iadd, 1) := by decide +kernel
theorem dL_hands_120 : decode cL_hands 120 = .ok (.iaload, 1) := by decide +kernel
theorem dL_hands_121 : decode cL_hands 121 = .ok (.iadd, 1) := by decide +kernel
theorem dL_hands_122 : decode cL_hands 122 = .ok (.if_icmp .ge 43, 3) := by decide +kernel
theorem dL_hands_125 : decode cL_hands 125 = .ok (.aload_n 0, 1) := by decide +kernel
theorem dL_hands_126 : decode cL_hands 126 = .ok (.aload_n 0, 1) := by decide +kernel
theorem dL_hands_127 : decode cL_hands 127 = .ok (.iload_n 2, 1) := by decide +kernel
theorem dL_hands_128 : decode cL_hands 128 = .ok (.bipush 48, 2) := by decide +kernel
theorem dL_hands_130 : decode cL_hands 130 = .ok (.aload_n 1, 1) := by decide +kernel
theorem dL_hands_131 : decode cL_hands 131 = .ok (.bipush 41, 2) := by decide +kernel
theorem dL_hands_133 : decode cL_hands 133 = .ok (.iconst 3, 1) := by decide +kernel
theorem dL_hands_134 : decode cL_hands 134 = .ok (.iload 5, 2) := by decide +kernel
theorem dL_hands_136 : decode cL_hands 136 = .ok (.imul, 1) := by decide +kernel
theorem dL_hands_137 : decode cL_hands 137 = .ok (.iadd, 1) := by decide +kernel
theorem dL_hands_138 : decode cL_hands 138 = .ok (.iaload, 1) := by decide +kernel
theorem dL_hands_139 : decode cL_hands 139 = .ok (.iadd, 1) := by decide +kernel
theorem dL_hands_140 : decode cL_hands 140 = .ok (.invokestatic 14, 3) := by decide +kernel
theorem dL_hands_143 : decode cL_hands 143 = .ok (.bipush 48, 2) := by decide +kernel
theorem dL_hands_145 : decode cL_hands 145 = .ok (.aload_n 1, 1) := by decide +kernel
theorem dL_hands_146 : decode cL_hands 146 = .ok (.bipush 42, 2) := by decide +kernel
theorem dL_hands_148 : decode cL_hands 148 = .ok (.iconst 3, 1) := by decide +kernel
theorem dL_hands_149 : decode cL_hands 149 = .ok (.iload 5, 2) := by decide +kernel
theorem dL_hands_151 : decode cL_hands 151 = .ok (.imul, 1) := by decide +kernel
theorem dL_hands_152 : decode cL_hands 152 = .ok (.iadd, 1) := by decide +kernel
theorem dL_hands_153 : decode cL_hands 153 = .ok (.iaload, 1) := by decide +kernel
theorem dL_hands_154 : decode cL_hands 154 = .ok (.iadd, 1) := by decide +kernel
theorem dL_hands_155 : decode cL_hands 155 = .ok (.invokestatic 14, 3) := by decide +kernel
theorem dL_hands_158 : decode cL_hands 158 = .ok (.istore_n 2, 1) := by decide +kernel
theorem dL_hands_159 : decode cL_hands 159 = .ok (.iinc 5 1, 3) := by decide +kernel
theorem dL_hands_162 : decode cL_hands 162 = .ok (.goto (-61), 3) := by decide +kernel
theorem dL_hands_165 : decode cL_hands 165 = .ok (.iinc 4 1, 3) := by decide +kernel
theorem dL_hands_168 : decode cL_hands 168 = .ok (.goto (-123), 3) := by decide +kernel
theorem dL_hands_171 : decode cL_hands 171 = .ok (.iinc 3 1, 3) := by decide +kernel
theorem dL_hands_174 : decode cL_hands 174 = .ok (.goto (-156), 3) := by decide +kernel
theorem dL_hands_177 : decode cL_hands 177 = .ok (.iload_n 2, 1) := by decide +kernel
theorem dL_hands_178 : decode cL_hands 178 = .ok (.ifCond .le 28, 3) := by decide +kernel
theorem dL_hands_181 : decode cL_hands 181 = .ok (.aload_n 0, 1) := by decide +kernel
theorem dL_hands_182 : decode cL_hands 182 = .ok (.iconst 3, 1) := by decide +kernel
theorem dL_hands_183 : decode cL_hands 183 = .ok (.invokevirtual 30, 3) := by decide +kernel
theorem dL_hands_186 : decode cL_hands 186 = .ok (.bipush (-9), 2) := by decide +kernel
theorem dL_hands_188 : decode cL_hands 188 = .ok (.if_icmp .ne 18, 3) := by decide +kernel
theorem dL_hands_191 : decode cL_hands 191 = .ok (.aload_n 0, 1) := by decide +kernel
theorem dL_hands_192 : decode cL_hands 192 = .ok (.iconst 3, 1) := by decide +kernel
theorem dL_hands_193 : decode cL_hands 193 = .ok (.invokevirtual 34, 3) := by decide +kernel
theorem dL_hands_196 : decode cL_hands 196 = .ok (.aload_n 1, 1) := by decide +kernel
theorem dL_hands_197 : decode cL_hands 197 = .ok (.iconst 4, 1) := by decide +kernel
theorem dL_hands_198 : decode cL_hands 198 = .ok (.iaload, 1) := by decide +kernel
theorem dL_hands_199 : decode cL_hands 199 = .ok (.if_icmp .ne 7, 3) := by decide +kernel
theorem dL_hands_202 : decode cL_hands 202 = .ok (.iconst 1, 1) := by decide +kernel
theorem dL_hands_203 : decode cL_hands 203 = .ok (.goto 4, 3) := by decide +kernel
theorem dL_hands_206 : decode cL_hands 206 = .ok (.iconst 0, 1) := by decide +kernel
theorem dL_hands_207 : decode cL_hands 207 = .ok (.ireturn, 1) := by decide +kernel
theorem dL_all_0 : decode cL_all 0 = .ok (.iconst 1, 1) := by decide +kernel
theorem dL_all_1 : decode cL_all 1 = .ok (.istore_n 1, 1) := by decide +kernel
theorem dL_all_2 : decode cL_all 2 = .ok (.iconst 0, 1) := by decide +kernel
theorem dL_all_3 : decode cL_all 3 = .ok (.istore_n 2, 1) := by decide +kernel
theorem dL_all_4 : decode cL_all 4 = .ok (.iload_n 2, 1) := by decide +kernel
theorem dL_all_5 : decode cL_all 5 = .ok (.aload_n 0, 1) := by decide +kernel
theorem dL_all_6 : decode cL_all 6 = .ok (.iconst 4, 1) := by decide +kernel
theorem dL_all_7 : decode cL_all 7 = .ok (.iaload, 1) := by decide +kernel
theorem dL_all_8 : decode cL_all 8 = .ok (.if_icmp .ge 31, 3) := by decide +kernel
theorem dL_all_11 : decode cL_all 11 = .ok (.iload_n 1, 1) := by decide +kernel
theorem dL_all_12 : decode cL_all 12 = .ok (.aload_n 0, 1) := by decide +kernel
theorem dL_all_13 : decode cL_all 13 = .ok (.bipush 41, 2) := by decide +kernel
theorem dL_all_15 : decode cL_all 15 = .ok (.iconst 3, 1) := by decide +kernel
theorem dL_all_16 : decode cL_all 16 = .ok (.iload_n 2, 1) := by decide +kernel
theorem dL_all_17 : decode cL_all 17 = .ok (.imul, 1) := by decide +kernel
theorem dL_all_18 : decode cL_all 18 = .ok (.iadd, 1) := by decide +kernel
theorem dL_all_19 : decode cL_all 19 = .ok (.iaload, 1) := by decide +kernel
theorem dL_all_20 : decode cL_all 20 = .ok (.aload_n 0, 1) := by decide +kernel
theorem dL_all_21 : decode cL_all 21 = .ok (.bipush 42, 2) := by decide +kernel
theorem dL_all_23 : decode cL_all 23 = .ok (.iconst 3, 1) := by decide +kernel
theorem dL_all_24 : decode cL_all 24 = .ok (.iload_n 2, 1) := by decide +kernel
theorem dL_all_25 : decode cL_all 25 = .ok (.imul, 1) := by decide +kernel
theorem dL_all_26 : decode cL_all 26 = .ok (.iadd, 1) := by decide +kernel
theorem dL_all_27 : decode cL_all 27 = .ok (.iaload, 1) := by decide +kernel
theorem dL_all_28 : decode cL_all 28 = .ok (.iadd, 1) := by decide +kernel
theorem dL_all_29 : decode cL_all 29 = .ok (.iconst 1, 1) := by decide +kernel
theorem dL_all_30 : decode cL_all 30 = .ok (.iadd, 1) := by decide +kernel
theorem dL_all_31 : decode cL_all 31 = .ok (.imul, 1) := by decide +kernel
theorem dL_all_32 : decode cL_all 32 = .ok (.istore_n 1, 1) := by decide +kernel
theorem dL_all_33 : decode cL_all 33 = .ok (.iinc 2 1, 3) := by decide +kernel
theorem dL_all_36 : decode cL_all 36 = .ok (.goto (-32), 3) := by decide +kernel
theorem dL_all_39 : decode cL_all 39 = .ok (.iload_n 1, 1) := by decide +kernel
theorem dL_all_40 : decode cL_all 40 = .ok (.ireturn, 1) := by decide +kernel
theorem dL_turns_0 : decode cL_turns 0 = .ok (.iload_n 1, 1) := by decide +kernel
theorem dL_turns_1 : decode cL_turns 1 = .ok (.istore_n 3, 1) := by decide +kernel
theorem dL_turns_2 : decode cL_turns 2 = .ok (.aload_n 0, 1) := by decide +kernel
theorem dL_turns_3 : decode cL_turns 3 = .ok (.iconst 4, 1) := by decide +kernel
theorem dL_turns_4 : decode cL_turns 4 = .ok (.iaload, 1) := by decide +kernel
theorem dL_turns_5 : decode cL_turns 5 = .ok (.iconst 1, 1) := by decide +kernel
theorem dL_turns_6 : decode cL_turns 6 = .ok (.isub, 1) := by decide +kernel
theorem dL_turns_7 : decode cL_turns 7 = .ok (.istore 4, 2) := by decide +kernel
theorem dL_turns_9 : decode cL_turns 9 = .ok (.iload 4, 2) := by decide +kernel
theorem dL_turns_11 : decode cL_turns 11 = .ok (.ifCond .lt 55, 3) := by decide +kernel
theorem dL_turns_14 : decode cL_turns 14 = .ok (.aload_n 0, 1) := by decide +kernel
theorem dL_turns_15 : decode cL_turns 15 = .ok (.bipush 41, 2) := by decide +kernel
theorem dL_turns_17 : decode cL_turns 17 = .ok (.iconst 3, 1) := by decide +kernel
theorem dL_turns_18 : decode cL_turns 18 = .ok (.iload 4, 2) := by decide +kernel
theorem dL_turns_20 : decode cL_turns 20 = .ok (.imul, 1) := by decide +kernel
theorem dL_turns_21 : decode cL_turns 21 = .ok (.iadd, 1) := by decide +kernel
theorem dL_turns_22 : decode cL_turns 22 = .ok (.iaload, 1) := by decide +kernel
theorem dL_turns_23 : decode cL_turns 23 = .ok (.aload_n 0, 1) := by decide +kernel
theorem dL_turns_24 : decode cL_turns 24 = .ok (.bipush 42, 2) := by decide +kernel
theorem dL_turns_26 : decode cL_turns 26 = .ok (.iconst 3, 1) := by decide +kernel
theorem dL_turns_27 : decode cL_turns 27 = .ok (.iload 4, 2) := by decide +kernel
theorem dL_turns_29 : decode cL_turns 29 = .ok (.imul, 1) := by decide +kernel
theorem dL_turns_30 : decode cL_turns 30 = .ok (.iadd, 1) := by decide +kernel
theorem dL_turns_31 : decode cL_turns 31 = .ok (.iaload, 1) := by decide +kernel
theorem dL_turns_32 : decode cL_turns 32 = .ok (.iadd, 1) := by decide +kernel
theorem dL_turns_33 : decode cL_turns 33 = .ok (.iconst 1, 1) := by decide +kernel
theorem dL_turns_34 : decode cL_turns 34 = .ok (.iadd, 1) := by decide +kernel
theorem dL_turns_35 : decode cL_turns 35 = .ok (.istore 5, 2) := by decide +kernel
theorem dL_turns_37 : decode cL_turns 37 = .ok (.aload_n 2, 1) := by decide +kernel
theorem dL_turns_38 : decode cL_turns 38 = .ok (.iload 4, 2) := by decide +kernel
theorem dL_turns_40 : decode cL_turns 40 = .ok (.iload_n 3, 1) := by decide +kernel
theorem dL_turns_41 : decode cL_turns 41 = .ok (.iload 5, 2) := by decide +kernel
theorem dL_turns_43 : decode cL_turns 43 = .ok (.irem, 1) := by decide +kernel
theorem dL_turns_44 : decode cL_turns 44 = .ok (.aload_n 0, 1) := by decide +kernel
theorem dL_turns_45 : decode cL_turns 45 = .ok (.bipush 41, 2) := by decide +kernel
theorem dL_turns_47 : decode cL_turns 47 = .ok (.iconst 3, 1) := by decide +kernel
theorem dL_turns_48 : decode cL_turns 48 = .ok (.iload 4, 2) := by decide +kernel
theorem dL_turns_50 : decode cL_turns 50 = .ok (.imul, 1) := by decide +kernel
theorem dL_turns_51 : decode cL_turns 51 = .ok (.iadd, 1) := by decide +kernel
theorem dL_turns_52 : decode cL_turns 52 = .ok (.iaload, 1) := by decide +kernel
theorem dL_turns_53 : decode cL_turns 53 = .ok (.isub, 1) := by decide +kernel
theorem dL_turns_54 : decode cL_turns 54 = .ok (.iastore, 1) := by decide +kernel
theorem dL_turns_55 : decode cL_turns 55 = .ok (.iload_n 3, 1) := by decide +kernel
theorem dL_turns_56 : decode cL_turns 56 = .ok (.iload 5, 2) := by decide +kernel
theorem dL_turns_58 : decode cL_turns 58 = .ok (.idiv, 1) := by decide +kernel
theorem dL_turns_59 : decode cL_turns 59 = .ok (.istore_n 3, 1) := by decide +kernel
theorem dL_turns_60 : decode cL_turns 60 = .ok (.iinc 4 (-1), 3) := by decide +kernel
theorem dL_turns_63 : decode cL_turns 63 = .ok (.goto (-54), 3) := by decide +kernel
theorem dL_turns_66 : decode cL_turns 66 = .ok (.return_, 1) := by decide +kernel
theorem dL_lay_0 : decode cL_lay 0 = .ok (.aload_n 0, 1) := by decide +kernel
theorem dL_lay_1 : decode cL_lay 1 = .ok (.iload_n 1, 1) := by decide +kernel
theorem dL_lay_2 : decode cL_lay 2 = .ok (.iload_n 3, 1) := by decide +kernel
theorem dL_lay_3 : decode cL_lay 3 = .ok (.invokevirtual 47, 3) := by decide +kernel
theorem dL_lay_6 : decode cL_lay 6 = .ok (.iload_n 3, 1) := by decide +kernel
theorem dL_lay_7 : decode cL_lay 7 = .ok (.if_icmp .ne 7, 3) := by decide +kernel
theorem dL_lay_10 : decode cL_lay 10 = .ok (.iconst 1, 1) := by decide +kernel
theorem dL_lay_11 : decode cL_lay 11 = .ok (.goto 4, 3) := by decide +kernel
theorem dL_lay_14 : decode cL_lay 14 = .ok (.iconst 0, 1) := by decide +kernel
theorem dL_lay_15 : decode cL_lay 15 = .ok (.istore 4, 2) := by decide +kernel
theorem dL_lay_17 : decode cL_lay 17 = .ok (.iconst 0, 1) := by decide +kernel
theorem dL_lay_18 : decode cL_lay 18 = .ok (.istore 5, 2) := by decide +kernel
theorem dL_lay_20 : decode cL_lay 20 = .ok (.iload 5, 2) := by decide +kernel
theorem dL_lay_22 : decode cL_lay 22 = .ok (.iload_n 3, 1) := by decide +kernel
theorem dL_lay_23 : decode cL_lay 23 = .ok (.if_icmp .ge 36, 3) := by decide +kernel
theorem dL_lay_26 : decode cL_lay 26 = .ok (.iload 4, 2) := by decide +kernel
theorem dL_lay_28 : decode cL_lay 28 = .ok (.ifCond .eq 31, 3) := by decide +kernel
theorem dL_lay_31 : decode cL_lay 31 = .ok (.aload_n 0, 1) := by decide +kernel
theorem dL_lay_32 : decode cL_lay 32 = .ok (.iload_n 1, 1) := by decide +kernel
theorem dL_lay_33 : decode cL_lay 33 = .ok (.iload 5, 2) := by decide +kernel
theorem dL_lay_35 : decode cL_lay 35 = .ok (.aload_n 2, 1) := by decide +kernel
theorem dL_lay_36 : decode cL_lay 36 = .ok (.iload 5, 2) := by decide +kernel
theorem dL_lay_38 : decode cL_lay 38 = .ok (.iaload, 1) := by decide +kernel
theorem dL_lay_39 : decode cL_lay 39 = .ok (.invokevirtual 50, 3) := by decide +kernel
theorem dL_lay_42 : decode cL_lay 42 = .ok (.iconst 1, 1) := by decide +kernel
theorem dL_lay_43 : decode cL_lay 43 = .ok (.if_icmp .ne 7, 3) := by decide +kernel
theorem dL_lay_46 : decode cL_lay 46 = .ok (.iconst 1, 1) := by decide +kernel
theorem dL_lay_47 : decode cL_lay 47 = .ok (.goto 4, 3) := by decide +kernel
theorem dL_lay_50 : decode cL_lay 50 = .ok (.iconst 0, 1) := by decide +kernel
theorem dL_lay_51 : decode cL_lay 51 = .ok (.istore 4, 2) := by decide +kernel
theorem dL_lay_53 : decode cL_lay 53 = .ok (.iinc 5 1, 3) := by decide +kernel
theorem dL_lay_56 : decode cL_lay 56 = .ok (.goto (-36), 3) := by decide +kernel
theorem dL_lay_59 : decode cL_lay 59 = .ok (.iload 4, 2) := by decide +kernel
theorem dL_lay_61 : decode cL_lay 61 = .ok (.ireturn, 1) := by decide +kernel
theorem dL_tells_0 : decode cL_tells 0 = .ok (.iload_n 1, 1) := by decide +kernel
theorem dL_tells_1 : decode cL_tells 1 = .ok (.iconst 1, 1) := by decide +kernel
theorem dL_tells_2 : decode cL_tells 2 = .ok (.if_icmp .ne 10, 3) := by decide +kernel
theorem dL_tells_5 : decode cL_tells 5 = .ok (.aload_n 0, 1) := by decide +kernel
theorem dL_tells_6 : decode cL_tells 6 = .ok (.invokevirtual 56, 3) := by decide +kernel
theorem dL_tells_9 : decode cL_tells 9 = .ok (.goto 6, 3) := by decide +kernel
theorem dL_tells_12 : decode cL_tells 12 = .ok (.sipush (-7777), 3) := by decide +kernel
theorem dL_tells_15 : decode cL_tells 15 = .ok (.ireturn, 1) := by decide +kernel
theorem dL_law_0 : decode cL_law 0 = .ok (.new 9, 3) := by decide +kernel
theorem dL_law_3 : decode cL_law 3 = .ok (.dup, 1) := by decide +kernel
theorem dL_law_4 : decode cL_law 4 = .ok (.invokespecial 63, 3) := by decide +kernel
theorem dL_law_7 : decode cL_law 7 = .ok (.astore_n 1, 1) := by decide +kernel
theorem dL_law_8 : decode cL_law 8 = .ok (.new 9, 3) := by decide +kernel
theorem dL_law_11 : decode cL_law 11 = .ok (.dup, 1) := by decide +kernel
theorem dL_law_12 : decode cL_law 12 = .ok (.invokespecial 63, 3) := by decide +kernel
theorem dL_law_15 : decode cL_law 15 = .ok (.astore_n 2, 1) := by decide +kernel
theorem dL_law_16 : decode cL_law 16 = .ok (.bipush 64, 2) := by decide +kernel
theorem dL_law_18 : decode cL_law 18 = .ok (.newarray .int, 2) := by decide +kernel
theorem dL_law_20 : decode cL_law 20 = .ok (.astore_n 3, 1) := by decide +kernel
theorem dL_law_21 : decode cL_law 21 = .ok (.bipush 64, 2) := by decide +kernel
theorem dL_law_23 : decode cL_law 23 = .ok (.newarray .int, 2) := by decide +kernel
theorem dL_law_25 : decode cL_law 25 = .ok (.astore 4, 2) := by decide +kernel
theorem dL_law_27 : decode cL_law 27 = .ok (.bipush 64, 2) := by decide +kernel
theorem dL_law_29 : decode cL_law 29 = .ok (.newarray .int, 2) := by decide +kernel
theorem dL_law_31 : decode cL_law 31 = .ok (.astore 5, 2) := by decide +kernel
theorem dL_law_33 : decode cL_law 33 = .ok (.bipush 64, 2) := by decide +kernel
theorem dL_law_35 : decode cL_law 35 = .ok (.newarray .int, 2) := by decide +kernel
theorem dL_law_37 : decode cL_law 37 = .ok (.astore 6, 2) := by decide +kernel
theorem dL_law_39 : decode cL_law 39 = .ok (.aload_n 0, 1) := by decide +kernel
theorem dL_law_40 : decode cL_law 40 = .ok (.bipush 10, 2) := by decide +kernel
theorem dL_law_42 : decode cL_law 42 = .ok (.iconst 3, 1) := by decide +kernel
theorem dL_law_43 : decode cL_law 43 = .ok (.aload_n 3, 1) := by decide +kernel
theorem dL_law_44 : decode cL_law 44 = .ok (.invokestatic 64, 3) := by decide +kernel
theorem dL_law_47 : decode cL_law 47 = .ok (.iconst 0, 1) := by decide +kernel
theorem dL_law_48 : decode cL_law 48 = .ok (.istore 7, 2) := by decide +kernel
theorem dL_law_50 : decode cL_law 50 = .ok (.iload 7, 2) := by decide +kernel
theorem dL_law_52 : decode cL_law 52 = .ok (.bipush 64, 2) := by decide +kernel
theorem dL_law_54 : decode cL_law 54 = .ok (.if_icmp .ge 18, 3) := by decide +kernel
theorem dL_law_57 : decode cL_law 57 = .ok (.aload 4, 2) := by decide +kernel
theorem dL_law_59 : decode cL_law 59 = .ok (.iload 7, 2) := by decide +kernel
theorem dL_law_61 : decode cL_law 61 = .ok (.aload_n 3, 1) := by decide +kernel
theorem dL_law_62 : decode cL_law 62 = .ok (.iload 7, 2) := by decide +kernel
theorem dL_law_64 : decode cL_law 64 = .ok (.iaload, 1) := by decide +kernel
theorem dL_law_65 : decode cL_law 65 = .ok (.iastore, 1) := by decide +kernel
theorem dL_law_66 : decode cL_law 66 = .ok (.iinc 7 1, 3) := by decide +kernel
theorem dL_law_69 : decode cL_law 69 = .ok (.goto (-19), 3) := by decide +kernel
theorem dL_law_72 : decode cL_law 72 = .ok (.iconst 0, 1) := by decide +kernel
theorem dL_law_73 : decode cL_law 73 = .ok (.istore 7, 2) := by decide +kernel
theorem dL_law_75 : decode cL_law 75 = .ok (.iload 7, 2) := by decide +kernel
theorem dL_law_77 : decode cL_law 77 = .ok (.aload_n 3, 1) := by decide +kernel
theorem dL_law_78 : decode cL_law 78 = .ok (.iconst 0, 1) := by decide +kernel
theorem dL_law_79 : decode cL_law 79 = .ok (.iaload, 1) := by decide +kernel
theorem dL_law_80 : decode cL_law 80 = .ok (.if_icmp .ge 45, 3) := by decide +kernel
theorem dL_law_83 : decode cL_law 83 = .ok (.aload 4, 2) := by decide +kernel
theorem dL_law_85 : decode cL_law 85 = .ok (.iconst 1, 1) := by decide +kernel
theorem dL_law_86 : decode cL_law 86 = .ok (.iload 7, 2) := by decide +kernel
theorem dL_law_88 : decode cL_law 88 = .ok (.iadd, 1) := by decide +kernel
theorem dL_law_89 : decode cL_law 89 = .ok (.aload_n 3, 1) := by decide +kernel
theorem dL_law_90 : decode cL_law 90 = .ok (.iconst 1, 1) := by decide +kernel
theorem dL_law_91 : decode cL_law 91 = .ok (.iload 7, 2) := by decide +kernel
theorem dL_law_93 : decode cL_law 93 = .ok (.iadd, 1) := by decide +kernel
theorem dL_law_94 : decode cL_law 94 = .ok (.iaload, 1) := by decide +kernel
theorem dL_law_95 : decode cL_law 95 = .ok (.aload_n 3, 1) := by decide +kernel
theorem dL_law_96 : decode cL_law 96 = .ok (.iconst 1, 1) := by decide +kernel
theorem dL_law_97 : decode cL_law 97 = .ok (.iload 7, 2) := by decide +kernel
theorem dL_law_99 : decode cL_law 99 = .ok (.iadd, 1) := by decide +kernel
theorem dL_law_100 : decode cL_law 100 = .ok (.iaload, 1) := by decide +kernel
theorem dL_law_101 : decode cL_law 101 = .ok (.bipush 12, 2) := by decide +kernel
theorem dL_law_103 : decode cL_law 103 = .ok (.irem, 1) := by decide +kernel
theorem dL_law_104 : decode cL_law 104 = .ok (.isub, 1) := by decide +kernel
theorem dL_law_105 : decode cL_law 105 = .ok (.bipush 11, 2) := by decide +kernel
theorem dL_law_107 : decode cL_law 107 = .ok (.iadd, 1) := by decide +kernel
theorem dL_law_108 : decode cL_law 108 = .ok (.aload_n 3, 1) := by decide +kernel
theorem dL_law_109 : decode cL_law 109 = .ok (.iconst 1, 1) := by decide +kernel
theorem dL_law_110 : decode cL_law 110 = .ok (.iload 7, 2) := by decide +kernel
theorem dL_law_112 : decode cL_law 112 = .ok (.iadd, 1) := by decide +kernel
theorem dL_law_113 : decode cL_law 113 = .ok (.iaload, 1) := by decide +kernel
theorem dL_law_114 : decode cL_law 114 = .ok (.bipush 12, 2) := by decide +kernel
theorem dL_law_116 : decode cL_law 116 = .ok (.irem, 1) := by decide +kernel
theorem dL_law_117 : decode cL_law 117 = .ok (.isub, 1) := by decide +kernel
theorem dL_law_118 : decode cL_law 118 = .ok (.iastore, 1) := by decide +kernel
theorem dL_law_119 : decode cL_law 119 = .ok (.iinc 7 1, 3) := by decide +kernel
theorem dL_law_122 : decode cL_law 122 = .ok (.goto (-47), 3) := by decide +kernel
theorem dL_law_125 : decode cL_law 125 = .ok (.iconst 0, 1) := by decide +kernel
theorem dL_law_126 : decode cL_law 126 = .ok (.istore 7, 2) := by decide +kernel
theorem dL_law_128 : decode cL_law 128 = .ok (.iload 7, 2) := by decide +kernel
theorem dL_law_130 : decode cL_law 130 = .ok (.aload_n 3, 1) := by decide +kernel
theorem dL_law_131 : decode cL_law 131 = .ok (.iconst 3, 1) := by decide +kernel
theorem dL_law_132 : decode cL_law 132 = .ok (.iaload, 1) := by decide +kernel
theorem dL_law_133 : decode cL_law 133 = .ok (.if_icmp .ge 34, 3) := by decide +kernel
theorem dL_law_136 : decode cL_law 136 = .ok (.aload 4, 2) := by decide +kernel
theorem dL_law_138 : decode cL_law 138 = .ok (.bipush 9, 2) := by decide +kernel
theorem dL_law_140 : decode cL_law 140 = .ok (.iconst 4, 1) := by decide +kernel
theorem dL_law_141 : decode cL_law 141 = .ok (.iload 7, 2) := by decide +kernel
theorem dL_law_143 : decode cL_law 143 = .ok (.imul, 1) := by decide +kernel
theorem dL_law_144 : decode cL_law 144 = .ok (.iadd, 1) := by decide +kernel
theorem dL_law_145 : decode cL_law 145 = .ok (.bipush 8, 2) := by decide +kernel
theorem dL_law_147 : decode cL_law 147 = .ok (.aload_n 3, 1) := by decide +kernel
theorem dL_law_148 : decode cL_law 148 = .ok (.bipush 9, 2) := by decide +kernel
theorem dL_law_150 : decode cL_law 150 = .ok (.iconst 4, 1) := by decide +kernel
theorem dL_law_151 : decode cL_law 151 = .ok (.iload 7, 2) := by decide +kernel
theorem dL_law_153 : decode cL_law 153 = .ok (.imul, 1) := by decide +kernel
theorem dL_law_154 : decode cL_law 154 = .ok (.iadd, 1) := by decide +kernel
theorem dL_law_155 : decode cL_law 155 = .ok (.iaload, 1) := by decide +kernel
theorem dL_law_156 : decode cL_law 156 = .ok (.isub, 1) := by decide +kernel
theorem dL_law_157 : decode cL_law 157 = .ok (.bipush 8, 2) := by decide +kernel
theorem dL_law_159 : decode cL_law 159 = .ok (.irem, 1) := by decide +kernel
theorem dL_law_160 : decode cL_law 160 = .ok (.iastore, 1) := by decide +kernel
theorem dL_law_161 : decode cL_law 161 = .ok (.iinc 7 1, 3) := by decide +kernel
theorem dL_law_164 : decode cL_law 164 = .ok (.goto (-36), 3) := by decide +kernel
theorem dL_law_167 : decode cL_law 167 = .ok (.iconst 0, 1) := by decide +kernel
theorem dL_law_168 : decode cL_law 168 = .ok (.istore 7, 2) := by decide +kernel
theorem dL_law_170 : decode cL_law 170 = .ok (.iload 7, 2) := by decide +kernel
theorem dL_law_172 : decode cL_law 172 = .ok (.aload_n 3, 1) := by decide +kernel
theorem dL_law_173 : decode cL_law 173 = .ok (.iconst 4, 1) := by decide +kernel
theorem dL_law_174 : decode cL_law 174 = .ok (.iaload, 1) := by decide +kernel
theorem dL_law_175 : decode cL_law 175 = .ok (.if_icmp .ge 47, 3) := by decide +kernel
theorem dL_law_178 : decode cL_law 178 = .ok (.aload 4, 2) := by decide +kernel
theorem dL_law_180 : decode cL_law 180 = .ok (.bipush 41, 2) := by decide +kernel
theorem dL_law_182 : decode cL_law 182 = .ok (.iconst 3, 1) := by decide +kernel
theorem dL_law_183 : decode cL_law 183 = .ok (.iload 7, 2) := by decide +kernel
theorem dL_law_185 : decode cL_law 185 = .ok (.imul, 1) := by decide +kernel
theorem dL_law_186 : decode cL_law 186 = .ok (.iadd, 1) := by decide +kernel
theorem dL_law_187 : decode cL_law 187 = .ok (.aload_n 3, 1) := by decide +kernel
theorem dL_law_188 : decode cL_law 188 = .ok (.bipush 42, 2) := by decide +kernel
theorem dL_law_190 : decode cL_law 190 = .ok (.iconst 3, 1) := by decide +kernel
theorem dL_law_191 : decode cL_law 191 = .ok (.iload 7, 2) := by decide +kernel
theorem dL_law_193 : decode cL_law 193 = .ok (.imul, 1) := by decide +kernel
theorem dL_law_194 : decode cL_law 194 = .ok (.iadd, 1) := by decide +kernel
theorem dL_law_195 : decode cL_law 195 = .ok (.iaload, 1) := by decide +kernel
theorem dL_law_196 : decode cL_law 196 = .ok (.iastore, 1) := by decide +kernel
theorem dL_law_197 : decode cL_law 197 = .ok (.aload 4, 2) := by decide +kernel
theorem dL_law_199 : decode cL_law 199 = .ok (.bipush 42, 2) := by decide +kernel
theorem dL_law_201 : decode cL_law 201 = .ok (.iconst 3, 1) := by decide +kernel
theorem dL_law_202 : decode cL_law 202 = .ok (.iload 7, 2) := by decide +kernel
theorem dL_law_204 : decode cL_law 204 = .ok (.imul, 1) := by decide +kernel
theorem dL_law_205 : decode cL_law 205 = .ok (.iadd, 1) := by decide +kernel
theorem dL_law_206 : decode cL_law 206 = .ok (.aload_n 3, 1) := by decide +kernel
theorem dL_law_207 : decode cL_law 207 = .ok (.bipush 41, 2) := by decide +kernel
theorem dL_law_209 : decode cL_law 209 = .ok (.iconst 3, 1) := by decide +kernel
theorem dL_law_210 : decode cL_law 210 = .ok (.iload 7, 2) := by decide +kernel
theorem dL_law_212 : decode cL_law 212 = .ok (.imul, 1) := by decide +kernel
theorem dL_law_213 : decode cL_law 213 = .ok (.iadd, 1) := by decide +kernel
theorem dL_law_214 : decode cL_law 214 = .ok (.iaload, 1) := by decide +kernel
theorem dL_law_215 : decode cL_law 215 = .ok (.iastore, 1) := by decide +kernel
theorem dL_law_216 : decode cL_law 216 = .ok (.iinc 7 1, 3) := by decide +kernel
theorem dL_law_219 : decode cL_law 219 = .ok (.goto (-49), 3) := by decide +kernel
theorem dL_law_222 : decode cL_law 222 = .ok (.aload_n 1, 1) := by decide +kernel
theorem dL_law_223 : decode cL_law 223 = .ok (.aload_n 3, 1) := by decide +kernel
theorem dL_law_224 : decode cL_law 224 = .ok (.invokestatic 68, 3) := by decide +kernel
theorem dL_law_227 : decode cL_law 227 = .ok (.ifCond .eq 12, 3) := by decide +kernel
theorem dL_law_230 : decode cL_law 230 = .ok (.aload_n 2, 1) := by decide +kernel
theorem dL_law_231 : decode cL_law 231 = .ok (.aload 4, 2) := by decide +kernel
theorem dL_law_233 : decode cL_law 233 = .ok (.invokestatic 68, 3) := by decide +kernel
theorem dL_law_236 : decode cL_law 236 = .ok (.ifCond .ne 5, 3) := by decide +kernel
theorem dL_law_239 : decode cL_law 239 = .ok (.iconst 0, 1) := by decide +kernel
theorem dL_law_240 : decode cL_law 240 = .ok (.ireturn, 1) := by decide +kernel
theorem dL_law_241 : decode cL_law 241 = .ok (.bipush 16, 2) := by decide +kernel
theorem dL_law_243 : decode cL_law 243 = .ok (.newarray .int, 2) := by decide +kernel
theorem dL_law_245 : decode cL_law 245 = .ok (.astore 7, 2) := by decide +kernel
theorem dL_law_247 : decode cL_law 247 = .ok (.bipush 16, 2) := by decide +kernel
theorem dL_law_249 : decode cL_law 249 = .ok (.newarray .int, 2) := by decide +kernel
theorem dL_law_251 : decode cL_law 251 = .ok (.astore 8, 2) := by decide +kernel
theorem dL_law_253 : decode cL_law 253 = .ok (.bipush 16, 2) := by decide +kernel
theorem dL_law_255 : decode cL_law 255 = .ok (.newarray .int, 2) := by decide +kernel
theorem dL_law_257 : decode cL_law 257 = .ok (.astore 9, 2) := by decide +kernel
theorem dL_law_259 : decode cL_law 259 = .ok (.bipush 16, 2) := by decide +kernel
theorem dL_law_261 : decode cL_law 261 = .ok (.newarray .int, 2) := by decide +kernel
theorem dL_law_263 : decode cL_law 263 = .ok (.astore 10, 2) := by decide +kernel
theorem dL_law_265 : decode cL_law 265 = .ok (.iconst 0, 1) := by decide +kernel
theorem dL_law_266 : decode cL_law 266 = .ok (.istore 11, 2) := by decide +kernel
theorem dL_law_268 : decode cL_law 268 = .ok (.iload 11, 2) := by decide +kernel
theorem dL_law_270 : decode cL_law 270 = .ok (.bipush 10, 2) := by decide +kernel
theorem dL_law_272 : decode cL_law 272 = .ok (.if_icmp .ge 81, 3) := by decide +kernel
theorem dL_law_275 : decode cL_law 275 = .ok (.aload 7, 2) := by decide +kernel
theorem dL_law_277 : decode cL_law 277 = .ok (.iload 11, 2) := by decide +kernel
theorem dL_law_279 : decode cL_law 279 = .ok (.aload_n 0, 1) := by decide +kernel
theorem dL_law_280 : decode cL_law 280 = .ok (.bipush 30, 2) := by decide +kernel
theorem dL_law_282 : decode cL_law 282 = .ok (.iload 11, 2) := by decide +kernel
theorem dL_law_284 : decode cL_law 284 = .ok (.iadd, 1) := by decide +kernel
theorem dL_law_285 : decode cL_law 285 = .ok (.invokestatic 19, 3) := by decide +kernel
theorem dL_law_288 : decode cL_law 288 = .ok (.aload_n 0, 1) := by decide +kernel
theorem dL_law_289 : decode cL_law 289 = .ok (.bipush 31, 2) := by decide +kernel
theorem dL_law_291 : decode cL_law 291 = .ok (.iload 11, 2) := by decide +kernel
theorem dL_law_293 : decode cL_law 293 = .ok (.iadd, 1) := by decide +kernel
theorem dL_law_294 : decode cL_law 294 = .ok (.invokestatic 19, 3) := by decide +kernel
theorem dL_law_297 : decode cL_law 297 = .ok (.iand, 1) := by decide +kernel
theorem dL_law_298 : decode cL_law 298 = .ok (.sipush 4095, 3) := by decide +kernel
theorem dL_law_301 : decode cL_law 301 = .ok (.iand, 1) := by decide +kernel
theorem dL_law_302 : decode cL_law 302 = .ok (.iastore, 1) := by decide +kernel
theorem dL_law_303 : decode cL_law 303 = .ok (.aload 8, 2) := by decide +kernel
theorem dL_law_305 : decode cL_law 305 = .ok (.iload 11, 2) := by decide +kernel
theorem dL_law_307 : decode cL_law 307 = .ok (.aload_n 0, 1) := by decide +kernel
theorem dL_law_308 : decode cL_law 308 = .ok (.bipush 45, 2) := by decide +kernel
theorem dL_law_310 : decode cL_law 310 = .ok (.iload 11, 2) := by decide +kernel
theorem dL_law_312 : decode cL_law 312 = .ok (.iadd, 1) := by decide +kernel
theorem dL_law_313 : decode cL_law 313 = .ok (.invokestatic 19, 3) := by decide +kernel
theorem dL_law_316 : decode cL_law 316 = .ok (.sipush 4095, 3) := by decide +kernel
theorem dL_law_319 : decode cL_law 319 = .ok (.iand, 1) := by decide +kernel
theorem dL_law_320 : decode cL_law 320 = .ok (.iastore, 1) := by decide +kernel
theorem dL_law_321 : decode cL_law 321 = .ok (.aload 9, 2) := by decide +kernel
theorem dL_law_323 : decode cL_law 323 = .ok (.iload 11, 2) := by decide +kernel
theorem dL_law_325 : decode cL_law 325 = .ok (.aload 7, 2) := by decide +kernel
theorem dL_law_327 : decode cL_law 327 = .ok (.iload 11, 2) := by decide +kernel
theorem dL_law_329 : decode cL_law 329 = .ok (.iaload, 1) := by decide +kernel
theorem dL_law_330 : decode cL_law 330 = .ok (.invokestatic 71, 3) := by decide +kernel
theorem dL_law_333 : decode cL_law 333 = .ok (.iastore, 1) := by decide +kernel
theorem dL_law_334 : decode cL_law 334 = .ok (.aload 10, 2) := by decide +kernel
theorem dL_law_336 : decode cL_law 336 = .ok (.iload 11, 2) := by decide +kernel
theorem dL_law_338 : decode cL_law 338 = .ok (.aload 8, 2) := by decide +kernel
theorem dL_law_340 : decode cL_law 340 = .ok (.iload 11, 2) := by decide +kernel
theorem dL_law_342 : decode cL_law 342 = .ok (.iaload, 1) := by decide +kernel
theorem dL_law_343 : decode cL_law 343 = .ok (.invokestatic 71, 3) := by decide +kernel
theorem dL_law_346 : decode cL_law 346 = .ok (.iastore, 1) := by decide +kernel
theorem dL_law_347 : decode cL_law 347 = .ok (.iinc 11 1, 3) := by decide +kernel
theorem dL_law_350 : decode cL_law 350 = .ok (.goto (-82), 3) := by decide +kernel
theorem dL_law_353 : decode cL_law 353 = .ok (.aload_n 1, 1) := by decide +kernel
theorem dL_law_354 : decode cL_law 354 = .ok (.iconst 0, 1) := by decide +kernel
theorem dL_law_355 : decode cL_law 355 = .ok (.aload 7, 2) := by decide +kernel
theorem dL_law_357 : decode cL_law 357 = .ok (.bipush 10, 2) := by decide +kernel
theorem dL_law_359 : decode cL_law 359 = .ok (.invokestatic 74, 3) := by decide +kernel
theorem dL_law_362 : decode cL_law 362 = .ok (.ifCond .eq 58, 3) := by decide +kernel
theorem dL_law_365 : decode cL_law 365 = .ok (.aload_n 1, 1) := by decide +kernel
theorem dL_law_366 : decode cL_law 366 = .ok (.iconst 1, 1) := by decide +kernel
theorem dL_law_367 : decode cL_law 367 = .ok (.aload 8, 2) := by decide +kernel
theorem dL_law_369 : decode cL_law 369 = .ok (.bipush 10, 2) := by decide +kernel
theorem dL_law_371 : decode cL_law 371 = .ok (.invokestatic 74, 3) := by decide +kernel
theorem dL_law_374 : decode cL_law 374 = .ok (.ifCond .eq 46, 3) := by decide +kernel
theorem dL_law_377 : decode cL_law 377 = .ok (.aload_n 2, 1) := by decide +kernel
theorem dL_law_378 : decode cL_law 378 = .ok (.iconst 0, 1) := by decide +kernel
theorem dL_law_379 : decode cL_law 379 = .ok (.aload 9, 2) := by decide +kernel
theorem dL_law_381 : decode cL_law 381 = .ok (.bipush 10, 2) := by decide +kernel
theorem dL_law_383 : decode cL_law 383 = .ok (.invokestatic 74, 3) := by decide +kernel
theorem dL_law_386 : decode cL_law 386 = .ok (.ifCond .eq 34, 3) := by decide +kernel
theorem dL_law_389 : decode cL_law 389 = .ok (.aload_n 2, 1) := by decide +kernel
theorem dL_law_390 : decode cL_law 390 = .ok (.iconst 1, 1) := by decide +kernel
theorem dL_law_391 : decode cL_law 391 = .ok (.aload 10, 2) := by decide +kernel
theorem dL_law_393 : decode cL_law 393 = .ok (.bipush 10, 2) := by decide +kernel
theorem dL_law_395 : decode cL_law 395 = .ok (.invokestatic 74, 3) := by decide +kernel
theorem dL_law_398 : decode cL_law 398 = .ok (.ifCond .eq 22, 3) := by decide +kernel
theorem dL_law_401 : decode cL_law 401 = .ok (.aload_n 1, 1) := by decide +kernel
theorem dL_law_402 : decode cL_law 402 = .ok (.iconst 0, 1) := by decide +kernel
theorem dL_law_403 : decode cL_law 403 = .ok (.iconst 0, 1) := by decide +kernel
theorem dL_law_404 : decode cL_law 404 = .ok (.iconst 1, 1) := by decide +kernel
theorem dL_law_405 : decode cL_law 405 = .ok (.iconst 0, 1) := by decide +kernel
theorem dL_law_406 : decode cL_law 406 = .ok (.invokevirtual 77, 3) := by decide +kernel
theorem dL_law_409 : decode cL_law 409 = .ok (.aload_n 2, 1) := by decide +kernel
theorem dL_law_410 : decode cL_law 410 = .ok (.iconst 0, 1) := by decide +kernel
theorem dL_law_411 : decode cL_law 411 = .ok (.iconst 0, 1) := by decide +kernel
theorem dL_law_412 : decode cL_law 412 = .ok (.iconst 1, 1) := by decide +kernel
theorem dL_law_413 : decode cL_law 413 = .ok (.iconst 0, 1) := by decide +kernel
theorem dL_law_414 : decode cL_law 414 = .ok (.invokevirtual 77, 3) := by decide +kernel
theorem dL_law_417 : decode cL_law 417 = .ok (.if_icmp .eq 5, 3) := by decide +kernel
theorem dL_law_420 : decode cL_law 420 = .ok (.iconst 0, 1) := by decide +kernel
theorem dL_law_421 : decode cL_law 421 = .ok (.ireturn, 1) := by decide +kernel
theorem dL_law_422 : decode cL_law 422 = .ok (.iconst 0, 1) := by decide +kernel
theorem dL_law_423 : decode cL_law 423 = .ok (.istore 11, 2) := by decide +kernel
theorem dL_law_425 : decode cL_law 425 = .ok (.iconst 0, 1) := by decide +kernel
theorem dL_law_426 : decode cL_law 426 = .ok (.istore 12, 2) := by decide +kernel
theorem dL_law_428 : decode cL_law 428 = .ok (.iload 12, 2) := by decide +kernel
theorem dL_law_430 : decode cL_law 430 = .ok (.bipush 8, 2) := by decide +kernel
theorem dL_law_432 : decode cL_law 432 = .ok (.if_icmp .ge 218, 3) := by decide +kernel
theorem dL_law_435 : decode cL_law 435 = .ok (.aload_n 1, 1) := by decide +kernel
theorem dL_law_436 : decode cL_law 436 = .ok (.iload 12, 2) := by decide +kernel
theorem dL_law_438 : decode cL_law 438 = .ok (.invokevirtual 81, 3) := by decide +kernel
theorem dL_law_441 : decode cL_law 441 = .ok (.aload_n 2, 1) := by decide +kernel
theorem dL_law_442 : decode cL_law 442 = .ok (.iload 12, 2) := by decide +kernel
theorem dL_law_444 : decode cL_law 444 = .ok (.invokevirtual 81, 3) := by decide +kernel
theorem dL_law_447 : decode cL_law 447 = .ok (.if_icmp .ne 64, 3) := by decide +kernel
theorem dL_law_450 : decode cL_law 450 = .ok (.aload_n 1, 1) := by decide +kernel
theorem dL_law_451 : decode cL_law 451 = .ok (.invokevirtual 84, 3) := by decide +kernel
theorem dL_law_454 : decode cL_law 454 = .ok (.iload 11, 2) := by decide +kernel
theorem dL_law_456 : decode cL_law 456 = .ok (.if_icmp .lt 55, 3) := by decide +kernel
theorem dL_law_459 : decode cL_law 459 = .ok (.aload_n 1, 1) := by decide +kernel
theorem dL_law_460 : decode cL_law 460 = .ok (.invokevirtual 84, 3) := by decide +kernel
theorem dL_law_463 : decode cL_law 463 = .ok (.aload_n 2, 1) := by decide +kernel
theorem dL_law_464 : decode cL_law 464 = .ok (.invokevirtual 84, 3) := by decide +kernel
theorem dL_law_467 : decode cL_law 467 = .ok (.if_icmp .ne 44, 3) := by decide +kernel
theorem dL_law_470 : decode cL_law 470 = .ok (.aload_n 1, 1) := by decide +kernel
theorem dL_law_471 : decode cL_law 471 = .ok (.invokevirtual 56, 3) := by decide +kernel
theorem dL_law_474 : decode cL_law 474 = .ok (.aload_n 2, 1) := by decide +kernel
theorem dL_law_475 : decode cL_law 475 = .ok (.invokevirtual 56, 3) := by decide +kernel
theorem dL_law_478 : decode cL_law 478 = .ok (.if_icmp .ne 33, 3) := by decide +kernel
theorem dL_law_481 : decode cL_law 481 = .ok (.aload_n 1, 1) := by decide +kernel
theorem dL_law_482 : decode cL_law 482 = .ok (.iconst 0, 1) := by decide +kernel
theorem dL_law_483 : decode cL_law 483 = .ok (.iconst 2, 1) := by decide +kernel
theorem dL_law_484 : decode cL_law 484 = .ok (.invokevirtual 87, 3) := by decide +kernel
theorem dL_law_487 : decode cL_law 487 = .ok (.aload_n 2, 1) := by decide +kernel
theorem dL_law_488 : decode cL_law 488 = .ok (.iconst 0, 1) := by decide +kernel
theorem dL_law_489 : decode cL_law 489 = .ok (.iconst 2, 1) := by decide +kernel
theorem dL_law_490 : decode cL_law 490 = .ok (.invokevirtual 87, 3) := by decide +kernel
theorem dL_law_493 : decode cL_law 493 = .ok (.if_icmp .ne 18, 3) := by decide +kernel
theorem dL_law_496 : decode cL_law 496 = .ok (.aload_n 1, 1) := by decide +kernel
theorem dL_law_497 : decode cL_law 497 = .ok (.iconst 0, 1) := by decide +kernel
theorem dL_law_498 : decode cL_law 498 = .ok (.iconst 3, 1) := by decide +kernel
theorem dL_law_499 : decode cL_law 499 = .ok (.invokevirtual 90, 3) := by decide +kernel
theorem dL_law_502 : decode cL_law 502 = .ok (.aload_n 2, 1) := by decide +kernel
theorem dL_law_503 : decode cL_law 503 = .ok (.iconst 0, 1) := by decide +kernel
theorem dL_law_504 : decode cL_law 504 = .ok (.iconst 3, 1) := by decide +kernel
theorem dL_law_505 : decode cL_law 505 = .ok (.invokevirtual 90, 3) := by decide +kernel
theorem dL_law_508 : decode cL_law 508 = .ok (.if_icmp .eq 5, 3) := by decide +kernel
theorem dL_law_511 : decode cL_law 511 = .ok (.iconst 0, 1) := by decide +kernel
theorem dL_law_512 : decode cL_law 512 = .ok (.ireturn, 1) := by decide +kernel
theorem dL_law_513 : decode cL_law 513 = .ok (.aload_n 1, 1) := by decide +kernel
theorem dL_law_514 : decode cL_law 514 = .ok (.invokevirtual 84, 3) := by decide +kernel
theorem dL_law_517 : decode cL_law 517 = .ok (.istore 11, 2) := by decide +kernel
theorem dL_law_519 : decode cL_law 519 = .ok (.aload_n 1, 1) := by decide +kernel
theorem dL_law_520 : decode cL_law 520 = .ok (.iconst 0, 1) := by decide +kernel
theorem dL_law_521 : decode cL_law 521 = .ok (.iconst 2, 1) := by decide +kernel
theorem dL_law_522 : decode cL_law 522 = .ok (.invokevirtual 87, 3) := by decide +kernel
theorem dL_law_525 : decode cL_law 525 = .ok (.istore 13, 2) := by decide +kernel
theorem dL_law_527 : decode cL_law 527 = .ok (.iload 13, 2) := by decide +kernel
theorem dL_law_529 : decode cL_law 529 = .ok (.ifCond .lt 14, 3) := by decide +kernel
theorem dL_law_532 : decode cL_law 532 = .ok (.iload 13, 2) := by decide +kernel
theorem dL_law_534 : decode cL_law 534 = .ok (.aload_n 1, 1) := by decide +kernel
theorem dL_law_535 : decode cL_law 535 = .ok (.iconst 0, 1) := by decide +kernel
theorem dL_law_536 : decode cL_law 536 = .ok (.iconst 3, 1) := by decide +kernel
theorem dL_law_537 : decode cL_law 537 = .ok (.invokevirtual 90, 3) := by decide +kernel
theorem dL_law_540 : decode cL_law 540 = .ok (.if_icmp .lt 26, 3) := by decide +kernel
theorem dL_law_543 : decode cL_law 543 = .ok (.iload 13, 2) := by decide +kernel
theorem dL_law_545 : decode cL_law 545 = .ok (.ifCond .lt 7, 3) := by decide +kernel
theorem dL_law_548 : decode cL_law 548 = .ok (.iconst 1, 1) := by decide +kernel
theorem dL_law_549 : decode cL_law 549 = .ok (.goto 4, 3) := by decide +kernel
theorem dL_law_552 : decode cL_law 552 = .ok (.iconst 0, 1) := by decide +kernel
theorem dL_law_553 : decode cL_law 553 = .ok (.iload 11, 2) := by decide +kernel
theorem dL_law_555 : decode cL_law 555 = .ok (.ifCond .le 7, 3) := by decide +kernel
theorem dL_law_558 : decode cL_law 558 = .ok (.iconst 1, 1) := by decide +kernel
theorem dL_law_559 : decode cL_law 559 = .ok (.goto 4, 3) := by decide +kernel
theorem dL_law_562 : decode cL_law 562 = .ok (.iconst 0, 1) := by decide +kernel
theorem dL_law_563 : decode cL_law 563 = .ok (.if_icmp .eq 5, 3) := by decide +kernel
theorem dL_law_566 : decode cL_law 566 = .ok (.iconst 0, 1) := by decide +kernel
theorem dL_law_567 : decode cL_law 567 = .ok (.ireturn, 1) := by decide +kernel
theorem dL_law_568 : decode cL_law 568 = .ok (.iconst 0, 1) := by decide +kernel
theorem dL_law_569 : decode cL_law 569 = .ok (.istore 14, 2) := by decide +kernel
theorem dL_law_571 : decode cL_law 571 = .ok (.iload 14, 2) := by decide +kernel
theorem dL_law_573 : decode cL_law 573 = .ok (.aload_n 3, 1) := by decide +kernel
theorem dL_law_574 : decode cL_law 574 = .ok (.iconst 4, 1) := by decide +kernel
theorem dL_law_575 : decode cL_law 575 = .ok (.iaload, 1) := by decide +kernel
theorem dL_law_576 : decode cL_law 576 = .ok (.if_icmp .ge 68, 3) := by decide +kernel
theorem dL_law_579 : decode cL_law 579 = .ok (.aload_n 1, 1) := by decide +kernel
theorem dL_law_580 : decode cL_law 580 = .ok (.iload 14, 2) := by decide +kernel
theorem dL_law_582 : decode cL_law 582 = .ok (.iconst 0, 1) := by decide +kernel
theorem dL_law_583 : decode cL_law 583 = .ok (.invokevirtual 93, 3) := by decide +kernel
theorem dL_law_586 : decode cL_law 586 = .ok (.istore 15, 2) := by decide +kernel
theorem dL_law_588 : decode cL_law 588 = .ok (.iload 15, 2) := by decide +kernel
theorem dL_law_590 : decode cL_law 590 = .ok (.aload_n 2, 1) := by decide +kernel
theorem dL_law_591 : decode cL_law 591 = .ok (.iload 14, 2) := by decide +kernel
theorem dL_law_593 : decode cL_law 593 = .ok (.iconst 0, 1) := by decide +kernel
theorem dL_law_594 : decode cL_law 594 = .ok (.invokevirtual 93, 3) := by decide +kernel
theorem dL_law_597 : decode cL_law 597 = .ok (.if_icmp .ne 39, 3) := by decide +kernel
theorem dL_law_600 : decode cL_law 600 = .ok (.iload 15, 2) := by decide +kernel
theorem dL_law_602 : decode cL_law 602 = .ok (.ifCond .lt 15, 3) := by decide +kernel
theorem dL_law_605 : decode cL_law 605 = .ok (.aload_n 1, 1) := by decide +kernel
theorem dL_law_606 : decode cL_law 606 = .ok (.invokevirtual 56, 3) := by decide +kernel
theorem dL_law_609 : decode cL_law 609 = .ok (.iload 15, 2) := by decide +kernel
theorem dL_law_611 : decode cL_law 611 = .ok (.iload 13, 2) := by decide +kernel
theorem dL_law_613 : decode cL_law 613 = .ok (.iadd, 1) := by decide +kernel
theorem dL_law_614 : decode cL_law 614 = .ok (.if_icmp .ne 22, 3) := by decide +kernel
theorem dL_law_617 : decode cL_law 617 = .ok (.iload 15, 2) := by decide +kernel
theorem dL_law_619 : decode cL_law 619 = .ok (.bipush (-9), 2) := by decide +kernel
theorem dL_law_621 : decode cL_law 621 = .ok (.if_icmp .lt 15, 3) := by decide +kernel
theorem dL_law_624 : decode cL_law 624 = .ok (.iload 15, 2) := by decide +kernel
theorem dL_law_626 : decode cL_law 626 = .ok (.bipush (-9), 2) := by decide +kernel
theorem dL_law_628 : decode cL_law 628 = .ok (.if_icmp .le 10, 3) := by decide +kernel
theorem dL_law_631 : decode cL_law 631 = .ok (.iload 15, 2) := by decide +kernel
theorem dL_law_633 : decode cL_law 633 = .ok (.ifCond .ge 5, 3) := by decide +kernel
theorem dL_law_636 : decode cL_law 636 = .ok (.iconst 0, 1) := by decide +kernel
theorem dL_law_637 : decode cL_law 637 = .ok (.ireturn, 1) := by decide +kernel
theorem dL_law_638 : decode cL_law 638 = .ok (.iinc 14 1, 3) := by decide +kernel
theorem dL_law_641 : decode cL_law 641 = .ok (.goto (-70), 3) := by decide +kernel
theorem dL_law_644 : decode cL_law 644 = .ok (.iinc 12 1, 3) := by decide +kernel
theorem dL_law_647 : decode cL_law 647 = .ok (.goto (-219), 3) := by decide +kernel
theorem dL_law_650 : decode cL_law 650 = .ok (.iconst 0, 1) := by decide +kernel
theorem dL_law_651 : decode cL_law 651 = .ok (.istore 12, 2) := by decide +kernel
theorem dL_law_653 : decode cL_law 653 = .ok (.iconst 0, 1) := by decide +kernel
theorem dL_law_654 : decode cL_law 654 = .ok (.istore 13, 2) := by decide +kernel
theorem dL_law_656 : decode cL_law 656 = .ok (.iload 13, 2) := by decide +kernel
theorem dL_law_658 : decode cL_law 658 = .ok (.iconst 5, 1) := by decide +kernel
theorem dL_law_659 : decode cL_law 659 = .ok (.if_icmp .ge 401, 3) := by decide +kernel
theorem dL_law_662 : decode cL_law 662 = .ok (.aload_n 3, 1) := by decide +kernel
theorem dL_law_663 : decode cL_law 663 = .ok (.aload_n 0, 1) := by decide +kernel
theorem dL_law_664 : decode cL_law 664 = .ok (.bipush 70, 2) := by decide +kernel
theorem dL_law_666 : decode cL_law 666 = .ok (.iload 13, 2) := by decide +kernel
theorem dL_law_668 : decode cL_law 668 = .ok (.iadd, 1) := by decide +kernel
theorem dL_law_669 : decode cL_law 669 = .ok (.invokestatic 19, 3) := by decide +kernel
theorem dL_law_672 : decode cL_law 672 = .ok (.aload_n 3, 1) := by decide +kernel
theorem dL_law_673 : decode cL_law 673 = .ok (.invokestatic 96, 3) := by decide +kernel
theorem dL_law_676 : decode cL_law 676 = .ok (.irem, 1) := by decide +kernel
theorem dL_law_677 : decode cL_law 677 = .ok (.aload 5, 2) := by decide +kernel
theorem dL_law_679 : decode cL_law 679 = .ok (.invokestatic 100, 3) := by decide +kernel
theorem dL_law_682 : decode cL_law 682 = .ok (.iconst 0, 1) := by decide +kernel
theorem dL_law_683 : decode cL_law 683 = .ok (.istore 14, 2) := by decide +kernel
theorem dL_law_685 : decode cL_law 685 = .ok (.iload 14, 2) := by decide +kernel
theorem dL_law_687 : decode cL_law 687 = .ok (.aload_n 3, 1) := by decide +kernel
theorem dL_law_688 : decode cL_law 688 = .ok (.iconst 4, 1) := by decide +kernel
theorem dL_law_689 : decode cL_law 689 = .ok (.iaload, 1) := by decide +kernel
theorem dL_law_690 : decode cL_law 690 = .ok (.if_icmp .ge 20, 3) := by decide +kernel
theorem dL_law_693 : decode cL_law 693 = .ok (.aload 6, 2) := by decide +kernel
theorem dL_law_695 : decode cL_law 695 = .ok (.iload 14, 2) := by decide +kernel
theorem dL_law_697 : decode cL_law 697 = .ok (.aload 5, 2) := by decide +kernel
theorem dL_law_699 : decode cL_law 699 = .ok (.iload 14, 2) := by decide +kernel
theorem dL_law_701 : decode cL_law 701 = .ok (.iaload, 1) := by decide +kernel
theorem dL_law_702 : decode cL_law 702 = .ok (.ineg, 1) := by decide +kernel
theorem dL_law_703 : decode cL_law 703 = .ok (.iastore, 1) := by decide +kernel
theorem dL_law_704 : decode cL_law 704 = .ok (.iinc 14 1, 3) := by decide +kernel
theorem dL_law_707 : decode cL_law 707 = .ok (.goto (-22), 3) := by decide +kernel
theorem dL_law_710 : decode cL_law 710 = .ok (.aload_n 1, 1) := by decide +kernel
theorem dL_law_711 : decode cL_law 711 = .ok (.iconst 4, 1) := by decide +kernel
theorem dL_law_712 : decode cL_law 712 = .ok (.aload 5, 2) := by decide +kernel
theorem dL_law_714 : decode cL_law 714 = .ok (.aload_n 3, 1) := by decide +kernel
theorem dL_law_715 : decode cL_law 715 = .ok (.iconst 4, 1) := by decide +kernel
theorem dL_law_716 : decode cL_law 716 = .ok (.iaload, 1) := by decide +kernel
theorem dL_law_717 : decode cL_law 717 = .ok (.invokestatic 74, 3) := by decide +kernel
theorem dL_law_720 : decode cL_law 720 = .ok (.ifCond .eq 76, 3) := by decide +kernel
theorem dL_law_723 : decode cL_law 723 = .ok (.aload_n 2, 1) := by decide +kernel
theorem dL_law_724 : decode cL_law 724 = .ok (.iconst 4, 1) := by decide +kernel
theorem dL_law_725 : decode cL_law 725 = .ok (.aload 6, 2) := by decide +kernel
theorem dL_law_727 : decode cL_law 727 = .ok (.aload_n 3, 1) := by decide +kernel
theorem dL_law_728 : decode cL_law 728 = .ok (.iconst 4, 1) := by decide +kernel
theorem dL_law_729 : decode cL_law 729 = .ok (.iaload, 1) := by decide +kernel
theorem dL_law_730 : decode cL_law 730 = .ok (.invokestatic 74, 3) := by decide +kernel
theorem dL_law_733 : decode cL_law 733 = .ok (.ifCond .eq 63, 3) := by decide +kernel
theorem dL_law_736 : decode cL_law 736 = .ok (.aload_n 1, 1) := by decide +kernel
theorem dL_law_737 : decode cL_law 737 = .ok (.iconst 4, 1) := by decide +kernel
theorem dL_law_738 : decode cL_law 738 = .ok (.bipush (-9), 2) := by decide +kernel
theorem dL_law_740 : decode cL_law 740 = .ok (.invokevirtual 104, 3) := by decide +kernel
theorem dL_law_743 : decode cL_law 743 = .ok (.iload 13, 2) := by decide +kernel
theorem dL_law_745 : decode cL_law 745 = .ok (.if_icmp .ne 51, 3) := by decide +kernel
theorem dL_law_748 : decode cL_law 748 = .ok (.aload_n 2, 1) := by decide +kernel
theorem dL_law_749 : decode cL_law 749 = .ok (.iconst 4, 1) := by decide +kernel
theorem dL_law_750 : decode cL_law 750 = .ok (.bipush (-9), 2) := by decide +kernel
theorem dL_law_752 : decode cL_law 752 = .ok (.invokevirtual 104, 3) := by decide +kernel
theorem dL_law_755 : decode cL_law 755 = .ok (.iload 13, 2) := by decide +kernel
theorem dL_law_757 : decode cL_law 757 = .ok (.if_icmp .ne 39, 3) := by decide +kernel
theorem dL_law_760 : decode cL_law 760 = .ok (.aload_n 1, 1) := by decide +kernel
theorem dL_law_761 : decode cL_law 761 = .ok (.invokevirtual 56, 3) := by decide +kernel
theorem dL_law_764 : decode cL_law 764 = .ok (.aload_n 2, 1) := by decide +kernel
theorem dL_law_765 : decode cL_law 765 = .ok (.invokevirtual 56, 3) := by decide +kernel
theorem dL_law_768 : decode cL_law 768 = .ok (.if_icmp .ne 28, 3) := by decide +kernel
theorem dL_law_771 : decode cL_law 771 = .ok (.aload_n 1, 1) := by decide +kernel
theorem dL_law_772 : decode cL_law 772 = .ok (.aload_n 1, 1) := by decide +kernel
theorem dL_law_773 : decode cL_law 773 = .ok (.iload 13, 2) := by decide +kernel
theorem dL_law_775 : decode cL_law 775 = .ok (.iconst 1, 1) := by decide +kernel
theorem dL_law_776 : decode cL_law 776 = .ok (.invokevirtual 107, 3) := by decide +kernel
theorem dL_law_779 : decode cL_law 779 = .ok (.invokestatic 110, 3) := by decide +kernel
theorem dL_law_782 : decode cL_law 782 = .ok (.aload_n 2, 1) := by decide +kernel
theorem dL_law_783 : decode cL_law 783 = .ok (.aload_n 2, 1) := by decide +kernel
theorem dL_law_784 : decode cL_law 784 = .ok (.iload 13, 2) := by decide +kernel
theorem dL_law_786 : decode cL_law 786 = .ok (.iconst 1, 1) := by decide +kernel
theorem dL_law_787 : decode cL_law 787 = .ok (.invokevirtual 107, 3) := by decide +kernel
theorem dL_law_790 : decode cL_law 790 = .ok (.invokestatic 110, 3) := by decide +kernel
theorem dL_law_793 : decode cL_law 793 = .ok (.if_icmp .eq 5, 3) := by decide +kernel
theorem dL_law_796 : decode cL_law 796 = .ok (.iconst 0, 1) := by decide +kernel
theorem dL_law_797 : decode cL_law 797 = .ok (.ireturn, 1) := by decide +kernel
theorem dL_law_798 : decode cL_law 798 = .ok (.aload_n 1, 1) := by decide +kernel
theorem dL_law_799 : decode cL_law 799 = .ok (.iload 13, 2) := by decide +kernel
theorem dL_law_801 : decode cL_law 801 = .ok (.iconst 5, 1) := by decide +kernel
theorem dL_law_802 : decode cL_law 802 = .ok (.invokevirtual 114, 3) := by decide +kernel
theorem dL_law_805 : decode cL_law 805 = .ok (.istore 14, 2) := by decide +kernel
theorem dL_law_807 : decode cL_law 807 = .ok (.iload 14, 2) := by decide +kernel
theorem dL_law_809 : decode cL_law 809 = .ok (.aload_n 2, 1) := by decide +kernel
theorem dL_law_810 : decode cL_law 810 = .ok (.iload 13, 2) := by decide +kernel
theorem dL_law_812 : decode cL_law 812 = .ok (.iconst 5, 1) := by decide +kernel
theorem dL_law_813 : decode cL_law 813 = .ok (.invokevirtual 114, 3) := by decide +kernel
theorem dL_law_816 : decode cL_law 816 = .ok (.if_icmp .ne 45, 3) := by decide +kernel
theorem dL_law_819 : decode cL_law 819 = .ok (.aload_n 1, 1) := by decide +kernel
theorem dL_law_820 : decode cL_law 820 = .ok (.iload 13, 2) := by decide +kernel
theorem dL_law_822 : decode cL_law 822 = .ok (.iconst 0, 1) := by decide +kernel
theorem dL_law_823 : decode cL_law 823 = .ok (.invokevirtual 117, 3) := by decide +kernel
theorem dL_law_826 : decode cL_law 826 = .ok (.aload_n 2, 1) := by decide +kernel
theorem dL_law_827 : decode cL_law 827 = .ok (.iload 13, 2) := by decide +kernel
theorem dL_law_829 : decode cL_law 829 = .ok (.iconst 0, 1) := by decide +kernel
theorem dL_law_830 : decode cL_law 830 = .ok (.invokevirtual 117, 3) := by decide +kernel
theorem dL_law_833 : decode cL_law 833 = .ok (.if_icmp .ne 28, 3) := by decide +kernel
theorem dL_law_836 : decode cL_law 836 = .ok (.aload_n 1, 1) := by decide +kernel
theorem dL_law_837 : decode cL_law 837 = .ok (.aload_n 1, 1) := by decide +kernel
theorem dL_law_838 : decode cL_law 838 = .ok (.iload 13, 2) := by decide +kernel
theorem dL_law_840 : decode cL_law 840 = .ok (.iconst 0, 1) := by decide +kernel
theorem dL_law_841 : decode cL_law 841 = .ok (.invokevirtual 107, 3) := by decide +kernel
theorem dL_law_844 : decode cL_law 844 = .ok (.invokestatic 110, 3) := by decide +kernel
theorem dL_law_847 : decode cL_law 847 = .ok (.aload_n 2, 1) := by decide +kernel
theorem dL_law_848 : decode cL_law 848 = .ok (.aload_n 2, 1) := by decide +kernel
theorem dL_law_849 : decode cL_law 849 = .ok (.iload 13, 2) := by decide +kernel
theorem dL_law_851 : decode cL_law 851 = .ok (.iconst 0, 1) := by decide +kernel
theorem dL_law_852 : decode cL_law 852 = .ok (.invokevirtual 107, 3) := by decide +kernel
theorem dL_law_855 : decode cL_law 855 = .ok (.invokestatic 110, 3) := by decide +kernel
theorem dL_law_858 : decode cL_law 858 = .ok (.if_icmp .eq 5, 3) := by decide +kernel
theorem dL_law_861 : decode cL_law 861 = .ok (.iconst 0, 1) := by decide +kernel
theorem dL_law_862 : decode cL_law 862 = .ok (.ireturn, 1) := by decide +kernel
theorem dL_law_863 : decode cL_law 863 = .ok (.iconst 0, 1) := by decide +kernel
theorem dL_law_864 : decode cL_law 864 = .ok (.istore 15, 2) := by decide +kernel
theorem dL_law_866 : decode cL_law 866 = .ok (.iload 15, 2) := by decide +kernel
theorem dL_law_868 : decode cL_law 868 = .ok (.bipush 10, 2) := by decide +kernel
theorem dL_law_870 : decode cL_law 870 = .ok (.if_icmp .ge 68, 3) := by decide +kernel
theorem dL_law_873 : decode cL_law 873 = .ok (.aload_n 1, 1) := by decide +kernel
theorem dL_law_874 : decode cL_law 874 = .ok (.iconst 5, 1) := by decide +kernel
theorem dL_law_875 : decode cL_law 875 = .ok (.iload 15, 2) := by decide +kernel
theorem dL_law_877 : decode cL_law 877 = .ok (.invokevirtual 53, 3) := by decide +kernel
theorem dL_law_880 : decode cL_law 880 = .ok (.iconst 1, 1) := by decide +kernel
theorem dL_law_881 : decode cL_law 881 = .ok (.if_icmp .ne 10, 3) := by decide +kernel
theorem dL_law_884 : decode cL_law 884 = .ok (.aload_n 1, 1) := by decide +kernel
theorem dL_law_885 : decode cL_law 885 = .ok (.invokevirtual 56, 3) := by decide +kernel
theorem dL_law_888 : decode cL_law 888 = .ok (.goto 4, 3) := by decide +kernel
theorem dL_law_891 : decode cL_law 891 = .ok (.iconst (-1), 1) := by decide +kernel
theorem dL_law_892 : decode cL_law 892 = .ok (.istore 16, 2) := by decide +kernel
theorem dL_law_894 : decode cL_law 894 = .ok (.aload_n 2, 1) := by decide +kernel
theorem dL_law_895 : decode cL_law 895 = .ok (.iconst 5, 1) := by decide +kernel
theorem dL_law_896 : decode cL_law 896 = .ok (.iload 15, 2) := by decide +kernel
theorem dL_law_898 : decode cL_law 898 = .ok (.invokevirtual 53, 3) := by decide +kernel
theorem dL_law_901 : decode cL_law 901 = .ok (.iconst 1, 1) := by decide +kernel
theorem dL_law_902 : decode cL_law 902 = .ok (.if_icmp .ne 10, 3) := by decide +kernel
theorem dL_law_905 : decode cL_law 905 = .ok (.aload_n 2, 1) := by decide +kernel
theorem dL_law_906 : decode cL_law 906 = .ok (.invokevirtual 56, 3) := by decide +kernel
theorem dL_law_909 : decode cL_law 909 = .ok (.goto 4, 3) := by decide +kernel
theorem dL_law_912 : decode cL_law 912 = .ok (.iconst (-1), 1) := by decide +kernel
theorem dL_law_913 : decode cL_law 913 = .ok (.istore 17, 2) := by decide +kernel
theorem dL_law_915 : decode cL_law 915 = .ok (.iload 16, 2) := by decide +kernel
theorem dL_law_917 : decode cL_law 917 = .ok (.ifCond .lt 13, 3) := by decide +kernel
theorem dL_law_920 : decode cL_law 920 = .ok (.iload 16, 2) := by decide +kernel
theorem dL_law_922 : decode cL_law 922 = .ok (.invokestatic 71, 3) := by decide +kernel
theorem dL_law_925 : decode cL_law 925 = .ok (.iload 17, 2) := by decide +kernel
theorem dL_law_927 : decode cL_law 927 = .ok (.if_icmp .eq 5, 3) := by decide +kernel
theorem dL_law_930 : decode cL_law 930 = .ok (.iconst 0, 1) := by decide +kernel
theorem dL_law_931 : decode cL_law 931 = .ok (.ireturn, 1) := by decide +kernel
theorem dL_law_932 : decode cL_law 932 = .ok (.iinc 15 1, 3) := by decide +kernel
theorem dL_law_935 : decode cL_law 935 = .ok (.goto (-69), 3) := by decide +kernel
theorem dL_law_938 : decode cL_law 938 = .ok (.aload_n 1, 1) := by decide +kernel
theorem dL_law_939 : decode cL_law 939 = .ok (.aload_n 1, 1) := by decide +kernel
theorem dL_law_940 : decode cL_law 940 = .ok (.iload 13, 2) := by decide +kernel
theorem dL_law_942 : decode cL_law 942 = .ok (.iconst 0, 1) := by decide +kernel
theorem dL_law_943 : decode cL_law 943 = .ok (.invokevirtual 107, 3) := by decide +kernel
theorem dL_law_946 : decode cL_law 946 = .ok (.invokestatic 110, 3) := by decide +kernel
theorem dL_law_949 : decode cL_law 949 = .ok (.iconst 1, 1) := by decide +kernel
theorem dL_law_950 : decode cL_law 950 = .ok (.if_icmp .ne 101, 3) := by decide +kernel
theorem dL_law_953 : decode cL_law 953 = .ok (.aload_n 1, 1) := by decide +kernel
theorem dL_law_954 : decode cL_law 954 = .ok (.iload 13, 2) := by decide +kernel
theorem dL_law_956 : decode cL_law 956 = .ok (.iconst 5, 1) := by decide +kernel
theorem dL_law_957 : decode cL_law 957 = .ok (.invokevirtual 120, 3) := by decide +kernel
theorem dL_law_960 : decode cL_law 960 = .ok (.iload 14, 2) := by decide +kernel
theorem dL_law_962 : decode cL_law 962 = .ok (.if_icmp .ne 87, 3) := by decide +kernel
theorem dL_law_965 : decode cL_law 965 = .ok (.aload_n 1, 1) := by decide +kernel
theorem dL_law_966 : decode cL_law 966 = .ok (.iconst 5, 1) := by decide +kernel
theorem dL_law_967 : decode cL_law 967 = .ok (.invokevirtual 123, 3) := by decide +kernel
theorem dL_law_970 : decode cL_law 970 = .ok (.iconst 1, 1) := by decide +kernel
theorem dL_law_971 : decode cL_law 971 = .ok (.if_icmp .lt 78, 3) := by decide +kernel
theorem dL_law_974 : decode cL_law 974 = .ok (.aload_n 1, 1) := by decide +kernel
theorem dL_law_975 : decode cL_law 975 = .ok (.iconst 5, 1) := by decide +kernel
theorem dL_law_976 : decode cL_law 976 = .ok (.invokevirtual 126, 3) := by decide +kernel
theorem dL_law_979 : decode cL_law 979 = .ok (.ifCond .lt 70, 3) := by decide +kernel
theorem dL_law_982 : decode cL_law 982 = .ok (.aload_n 1, 1) := by decide +kernel
theorem dL_law_983 : decode cL_law 983 = .ok (.invokevirtual 56, 3) := by decide +kernel
theorem dL_law_986 : decode cL_law 986 = .ok (.iconst 1, 1) := by decide +kernel
theorem dL_law_987 : decode cL_law 987 = .ok (.if_icmp .lt 62, 3) := by decide +kernel
theorem dL_law_990 : decode cL_law 990 = .ok (.aload_n 1, 1) := by decide +kernel
theorem dL_law_991 : decode cL_law 991 = .ok (.iconst 1, 1) := by decide +kernel
theorem dL_law_992 : decode cL_law 992 = .ok (.iconst 5, 1) := by decide +kernel
theorem dL_law_993 : decode cL_law 993 = .ok (.iconst 5, 1) := by decide +kernel
theorem dL_law_994 : decode cL_law 994 = .ok (.iconst 0, 1) := by decide +kernel
theorem dL_law_995 : decode cL_law 995 = .ok (.invokevirtual 77, 3) := by decide +kernel
theorem dL_law_998 : decode cL_law 998 = .ok (.iload 14, 2) := by decide +kernel
theorem dL_law_1000 : decode cL_law 1000 = .ok (.if_icmp .ne 49, 3) := by decide +kernel
theorem dL_law_1003 : decode cL_law 1003 = .ok (.aload_n 1, 1) := by decide +kernel
theorem dL_law_1004 : decode cL_law 1004 = .ok (.iconst 1, 1) := by decide +kernel
theorem dL_law_1005 : decode cL_law 1005 = .ok (.iconst 3, 1) := by decide +kernel
theorem dL_law_1006 : decode cL_law 1006 = .ok (.invokevirtual 87, 3) := by decide +kernel
theorem dL_law_1009 : decode cL_law 1009 = .ok (.ifCond .ne 40, 3) := by decide +kernel
theorem dL_law_1012 : decode cL_law 1012 = .ok (.aload_n 1, 1) := by decide +kernel
theorem dL_law_1013 : decode cL_law 1013 = .ok (.iload 13, 2) := by decide +kernel
theorem dL_law_1015 : decode cL_law 1015 = .ok (.iconst 1, 1) := by decide +kernel
theorem dL_law_1016 : decode cL_law 1016 = .ok (.invokevirtual 117, 3) := by decide +kernel
theorem dL_law_1019 : decode cL_law 1019 = .ok (.ifCond .ne 30, 3) := by decide +kernel
theorem dL_law_1022 : decode cL_law 1022 = .ok (.aload_n 1, 1) := by decide +kernel
theorem dL_law_1023 : decode cL_law 1023 = .ok (.iload 13, 2) := by decide +kernel
theorem dL_law_1025 : decode cL_law 1025 = .ok (.iconst 1, 1) := by decide +kernel
theorem dL_law_1026 : decode cL_law 1026 = .ok (.invokevirtual 129, 3) := by decide +kernel
theorem dL_law_1029 : decode cL_law 1029 = .ok (.ifCond .ne 20, 3) := by decide +kernel
theorem dL_law_1032 : decode cL_law 1032 = .ok (.aload_n 1, 1) := by decide +kernel
theorem dL_law_1033 : decode cL_law 1033 = .ok (.iload 13, 2) := by decide +kernel
theorem dL_law_1035 : decode cL_law 1035 = .ok (.iconst 0, 1) := by decide +kernel
theorem dL_law_1036 : decode cL_law 1036 = .ok (.invokevirtual 129, 3) := by decide +kernel
theorem dL_law_1039 : decode cL_law 1039 = .ok (.aload_n 1, 1) := by decide +kernel
theorem dL_law_1040 : decode cL_law 1040 = .ok (.iload 13, 2) := by decide +kernel
theorem dL_law_1042 : decode cL_law 1042 = .ok (.iconst 0, 1) := by decide +kernel
theorem dL_law_1043 : decode cL_law 1043 = .ok (.invokevirtual 117, 3) := by decide +kernel
theorem dL_law_1046 : decode cL_law 1046 = .ok (.if_icmp .le 5, 3) := by decide +kernel
theorem dL_law_1049 : decode cL_law 1049 = .ok (.iconst 0, 1) := by decide +kernel
theorem dL_law_1050 : decode cL_law 1050 = .ok (.ireturn, 1) := by decide +kernel
theorem dL_law_1051 : decode cL_law 1051 = .ok (.iinc 12 1, 3) := by decide +kernel
theorem dL_law_1054 : decode cL_law 1054 = .ok (.iinc 13 1, 3) := by decide +kernel
theorem dL_law_1057 : decode cL_law 1057 = .ok (.goto (-401), 3) := by decide +kernel
theorem dL_law_1060 : decode cL_law 1060 = .ok (.iconst 0, 1) := by decide +kernel
theorem dL_law_1061 : decode cL_law 1061 = .ok (.istore 13, 2) := by decide +kernel
theorem dL_law_1063 : decode cL_law 1063 = .ok (.iload 13, 2) := by decide +kernel
theorem dL_law_1065 : decode cL_law 1065 = .ok (.iload 12, 2) := by decide +kernel
theorem dL_law_1067 : decode cL_law 1067 = .ok (.if_icmp .ge 179, 3) := by decide +kernel
theorem dL_law_1070 : decode cL_law 1070 = .ok (.iconst 0, 1) := by decide +kernel
theorem dL_law_1071 : decode cL_law 1071 = .ok (.istore 14, 2) := by decide +kernel
theorem dL_law_1073 : decode cL_law 1073 = .ok (.iload 14, 2) := by decide +kernel
theorem dL_law_1075 : decode cL_law 1075 = .ok (.iload 12, 2) := by decide +kernel
theorem dL_law_1077 : decode cL_law 1077 = .ok (.if_icmp .ge 163, 3) := by decide +kernel
theorem dL_law_1080 : decode cL_law 1080 = .ok (.aload_n 1, 1) := by decide +kernel
theorem dL_law_1081 : decode cL_law 1081 = .ok (.iload 13, 2) := by decide +kernel
theorem dL_law_1083 : decode cL_law 1083 = .ok (.iload 14, 2) := by decide +kernel
theorem dL_law_1085 : decode cL_law 1085 = .ok (.invokevirtual 132, 3) := by decide +kernel
theorem dL_law_1088 : decode cL_law 1088 = .ok (.istore 15, 2) := by decide +kernel
theorem dL_law_1090 : decode cL_law 1090 = .ok (.iload 15, 2) := by decide +kernel
theorem dL_law_1092 : decode cL_law 1092 = .ok (.aload_n 2, 1) := by decide +kernel
theorem dL_law_1093 : decode cL_law 1093 = .ok (.iload 13, 2) := by decide +kernel
theorem dL_law_1095 : decode cL_law 1095 = .ok (.iload 14, 2) := by decide +kernel
theorem dL_law_1097 : decode cL_law 1097 = .ok (.invokevirtual 132, 3) := by decide +kernel
theorem dL_law_1100 : decode cL_law 1100 = .ok (.if_icmp .ne 28, 3) := by decide +kernel
theorem dL_law_1103 : decode cL_law 1103 = .ok (.iload 15, 2) := by decide +kernel
theorem dL_law_1105 : decode cL_law 1105 = .ok (.aload_n 1, 1) := by decide +kernel
theorem dL_law_1106 : decode cL_law 1106 = .ok (.iload 14, 2) := by decide +kernel
theorem dL_law_1108 : decode cL_law 1108 = .ok (.iload 13, 2) := by decide +kernel
theorem dL_law_1110 : decode cL_law 1110 = .ok (.invokevirtual 132, 3) := by decide +kernel
theorem dL_law_1113 : decode cL_law 1113 = .ok (.if_icmp .ne 15, 3) := by decide +kernel
theorem dL_law_1116 : decode cL_law 1116 = .ok (.iload 13, 2) := by decide +kernel
theorem dL_law_1118 : decode cL_law 1118 = .ok (.iload 14, 2) := by decide +kernel
theorem dL_law_1120 : decode cL_law 1120 = .ok (.if_icmp .ne 10, 3) := by decide +kernel
theorem dL_law_1123 : decode cL_law 1123 = .ok (.iload 15, 2) := by decide +kernel
theorem dL_law_1125 : decode cL_law 1125 = .ok (.ifCond .le 5, 3) := by decide +kernel
theorem dL_law_1128 : decode cL_law 1128 = .ok (.iconst 0, 1) := by decide +kernel
theorem dL_law_1129 : decode cL_law 1129 = .ok (.ireturn, 1) := by decide +kernel
theorem dL_law_1130 : decode cL_law 1130 = .ok (.aload_n 1, 1) := by decide +kernel
theorem dL_law_1131 : decode cL_law 1131 = .ok (.iload 13, 2) := by decide +kernel
theorem dL_law_1133 : decode cL_law 1133 = .ok (.iload 14, 2) := by decide +kernel
theorem dL_law_1135 : decode cL_law 1135 = .ok (.iconst 0, 1) := by decide +kernel
theorem dL_law_1136 : decode cL_law 1136 = .ok (.iconst 3, 1) := by decide +kernel
theorem dL_law_1137 : decode cL_law 1137 = .ok (.invokevirtual 135, 3) := by decide +kernel
theorem dL_law_1140 : decode cL_law 1140 = .ok (.istore 16, 2) := by decide +kernel
theorem dL_law_1142 : decode cL_law 1142 = .ok (.iload 16, 2) := by decide +kernel
theorem dL_law_1144 : decode cL_law 1144 = .ok (.ifCond .lt 10, 3) := by decide +kernel
theorem dL_law_1147 : decode cL_law 1147 = .ok (.iload 16, 2) := by decide +kernel
theorem dL_law_1149 : decode cL_law 1149 = .ok (.iload 15, 2) := by decide +kernel
theorem dL_law_1151 : decode cL_law 1151 = .ok (.if_icmp .lt 18, 3) := by decide +kernel
theorem dL_law_1154 : decode cL_law 1154 = .ok (.iload 16, 2) := by decide +kernel
theorem dL_law_1156 : decode cL_law 1156 = .ok (.aload_n 1, 1) := by decide +kernel
theorem dL_law_1157 : decode cL_law 1157 = .ok (.iload 14, 2) := by decide +kernel
theorem dL_law_1159 : decode cL_law 1159 = .ok (.iload 13, 2) := by decide +kernel
theorem dL_law_1161 : decode cL_law 1161 = .ok (.iconst 0, 1) := by decide +kernel
theorem dL_law_1162 : decode cL_law 1162 = .ok (.iconst 3, 1) := by decide +kernel
theorem dL_law_1163 : decode cL_law 1163 = .ok (.invokevirtual 135, 3) := by decide +kernel
theorem dL_law_1166 : decode cL_law 1166 = .ok (.if_icmp .eq 5, 3) := by decide +kernel
theorem dL_law_1169 : decode cL_law 1169 = .ok (.iconst 0, 1) := by decide +kernel
theorem dL_law_1170 : decode cL_law 1170 = .ok (.ireturn, 1) := by decide +kernel
theorem dL_law_1171 : decode cL_law 1171 = .ok (.iconst 0, 1) := by decide +kernel
theorem dL_law_1172 : decode cL_law 1172 = .ok (.istore 17, 2) := by decide +kernel
theorem dL_law_1174 : decode cL_law 1174 = .ok (.iload 17, 2) := by decide +kernel
theorem dL_law_1176 : decode cL_law 1176 = .ok (.iload 12, 2) := by decide +kernel
theorem dL_law_1178 : decode cL_law 1178 = .ok (.if_icmp .ge 56, 3) := by decide +kernel
theorem dL_law_1181 : decode cL_law 1181 = .ok (.aload_n 1, 1) := by decide +kernel
theorem dL_law_1182 : decode cL_law 1182 = .ok (.iload 13, 2) := by decide +kernel
theorem dL_law_1184 : decode cL_law 1184 = .ok (.iload 17, 2) := by decide +kernel
theorem dL_law_1186 : decode cL_law 1186 = .ok (.invokevirtual 132, 3) := by decide +kernel
theorem dL_law_1189 : decode cL_law 1189 = .ok (.istore 18, 2) := by decide +kernel
theorem dL_law_1191 : decode cL_law 1191 = .ok (.aload_n 1, 1) := by decide +kernel
theorem dL_law_1192 : decode cL_law 1192 = .ok (.iload 17, 2) := by decide +kernel
theorem dL_law_1194 : decode cL_law 1194 = .ok (.iload 14, 2) := by decide +kernel
theorem dL_law_1196 : decode cL_law 1196 = .ok (.invokevirtual 132, 3) := by decide +kernel
theorem dL_law_1199 : decode cL_law 1199 = .ok (.istore 19, 2) := by decide +kernel
theorem dL_law_1201 : decode cL_law 1201 = .ok (.iload 18, 2) := by decide +kernel
theorem dL_law_1203 : decode cL_law 1203 = .ok (.ifCond .lt 25, 3) := by decide +kernel
theorem dL_law_1206 : decode cL_law 1206 = .ok (.iload 19, 2) := by decide +kernel
theorem dL_law_1208 : decode cL_law 1208 = .ok (.ifCond .lt 20, 3) := by decide +kernel
theorem dL_law_1211 : decode cL_law 1211 = .ok (.iload 15, 2) := by decide +kernel
theorem dL_law_1213 : decode cL_law 1213 = .ok (.ifCond .lt 13, 3) := by decide +kernel
theorem dL_law_1216 : decode cL_law 1216 = .ok (.iload 15, 2) := by decide +kernel
theorem dL_law_1218 : decode cL_law 1218 = .ok (.iload 18, 2) := by decide +kernel
theorem dL_law_1220 : decode cL_law 1220 = .ok (.iload 19, 2) := by decide +kernel
theorem dL_law_1222 : decode cL_law 1222 = .ok (.iadd, 1) := by decide +kernel
theorem dL_law_1223 : decode cL_law 1223 = .ok (.if_icmp .le 5, 3) := by decide +kernel
theorem dL_law_1226 : decode cL_law 1226 = .ok (.iconst 0, 1) := by decide +kernel
theorem dL_law_1227 : decode cL_law 1227 = .ok (.ireturn, 1) := by decide +kernel
theorem dL_law_1228 : decode cL_law 1228 = .ok (.iinc 17 1, 3) := by decide +kernel
theorem dL_law_1231 : decode cL_law 1231 = .ok (.goto (-57), 3) := by decide +kernel
theorem dL_law_1234 : decode cL_law 1234 = .ok (.iinc 14 1, 3) := by decide +kernel
theorem dL_law_1237 : decode cL_law 1237 = .ok (.goto (-164), 3) := by decide +kernel
theorem dL_law_1240 : decode cL_law 1240 = .ok (.iinc 13 1, 3) := by decide +kernel
theorem dL_law_1243 : decode cL_law 1243 = .ok (.goto (-180), 3) := by decide +kernel
theorem dL_law_1246 : decode cL_law 1246 = .ok (.iconst 1, 1) := by decide +kernel
theorem dL_law_1247 : decode cL_law 1247 = .ok (.ireturn, 1) := by decide +kernel
theorem dL_glass_0 : decode cL_glass 0 = .ok (.iconst 0, 1) := by decide +kernel
theorem dL_glass_1 : decode cL_glass 1 = .ok (.istore_n 1, 1) := by decide +kernel
theorem dL_glass_2 : decode cL_glass 2 = .ok (.iconst 0, 1) := by decide +kernel
theorem dL_glass_3 : decode cL_glass 3 = .ok (.istore_n 2, 1) := by decide +kernel
theorem dL_glass_4 : decode cL_glass 4 = .ok (.iload_n 2, 1) := by decide +kernel
theorem dL_glass_5 : decode cL_glass 5 = .ok (.bipush 12, 2) := by decide +kernel
theorem dL_glass_7 : decode cL_glass 7 = .ok (.if_icmp .ge 22, 3) := by decide +kernel
theorem dL_glass_10 : decode cL_glass 10 = .ok (.iload_n 1, 1) := by decide +kernel
theorem dL_glass_11 : decode cL_glass 11 = .ok (.iload_n 0, 1) := by decide +kernel
theorem dL_glass_12 : decode cL_glass 12 = .ok (.iload_n 2, 1) := by decide +kernel
theorem dL_glass_13 : decode cL_glass 13 = .ok (.ishr, 1) := by decide +kernel
theorem dL_glass_14 : decode cL_glass 14 = .ok (.iconst 1, 1) := by decide +kernel
theorem dL_glass_15 : decode cL_glass 15 = .ok (.iand, 1) := by decide +kernel
theorem dL_glass_16 : decode cL_glass 16 = .ok (.bipush 11, 2) := by decide +kernel
theorem dL_glass_18 : decode cL_glass 18 = .ok (.iload_n 2, 1) := by decide +kernel
theorem dL_glass_19 : decode cL_glass 19 = .ok (.isub, 1) := by decide +kernel
theorem dL_glass_20 : decode cL_glass 20 = .ok (.ishl, 1) := by decide +kernel
theorem dL_glass_21 : decode cL_glass 21 = .ok (.ior, 1) := by decide +kernel
theorem dL_glass_22 : decode cL_glass 22 = .ok (.istore_n 1, 1) := by decide +kernel
theorem dL_glass_23 : decode cL_glass 23 = .ok (.iinc 2 1, 3) := by decide +kernel
theorem dL_glass_26 : decode cL_glass 26 = .ok (.goto (-22), 3) := by decide +kernel
theorem dL_glass_29 : decode cL_glass 29 = .ok (.iload_n 1, 1) := by decide +kernel
theorem dL_glass_30 : decode cL_glass 30 = .ok (.ireturn, 1) := by decide +kernel
