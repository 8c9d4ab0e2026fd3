theorem dX12_lay_54 : decode cX12_lay 54 = .ok (.aload_n 0, 1) := by decide +kernel
theorem dX12_lay_55 : decode cX12_lay 55 = .ok (.getfield 16, 3) := by decide +kernel
theorem dX12_lay_58 : decode cX12_lay 58 = .ok (.bipush 40, 2) := by decide +kernel
theorem dX12_lay_60 : decode cX12_lay 60 = .ok (.iload_n 1, 1) := by decide +kernel
theorem dX12_lay_61 : decode cX12_lay 61 = .ok (.imul, 1) := by decide +kernel
theorem dX12_lay_62 : decode cX12_lay 62 = .ok (.iload_n 2, 1) := by decide +kernel
theorem dX12_lay_63 : decode cX12_lay 63 = .ok (.iadd, 1) := by decide +kernel
theorem dX12_lay_64 : decode cX12_lay 64 = .ok (.iload_n 3, 1) := by decide +kernel
theorem dX12_lay_65 : decode cX12_lay 65 = .ok (.iastore, 1) := by decide +kernel
theorem dX12_lay_66 : decode cX12_lay 66 = .ok (.aload_n 0, 1) := by decide +kernel
theorem dX12_lay_67 : decode cX12_lay 67 = .ok (.iload 4, 2) := by decide +kernel
theorem dX12_lay_69 : decode cX12_lay 69 = .ok (.iconst 1, 1) := by decide +kernel
theorem dX12_lay_70 : decode cX12_lay 70 = .ok (.invokevirtual 153, 3) := by decide +kernel
theorem dX12_lay_73 : decode cX12_lay 73 = .ok (.ireturn, 1) := by decide +kernel
theorem dX12_at_0 : decode cX12_at 0 = .ok (.iload_n 1, 1) := by decide +kernel
theorem dX12_at_1 : decode cX12_at 1 = .ok (.invokestatic 141, 3) := by decide +kernel
theorem dX12_at_4 : decode cX12_at 4 = .ok (.ifCond .ne 5, 3) := by decide +kernel
theorem dX12_at_7 : decode cX12_at 7 = .ok (.iconst (-1), 1) := by decide +kernel
theorem dX12_at_8 : decode cX12_at 8 = .ok (.ireturn, 1) := by decide +kernel
theorem dX12_at_9 : decode cX12_at 9 = .ok (.aload_n 0, 1) := by decide +kernel
theorem dX12_at_10 : decode cX12_at 10 = .ok (.getfield 13, 3) := by decide +kernel
theorem dX12_at_13 : decode cX12_at 13 = .ok (.iload_n 1, 1) := by decide +kernel
theorem dX12_at_14 : decode cX12_at 14 = .ok (.iaload, 1) := by decide +kernel
theorem dX12_at_15 : decode cX12_at 15 = .ok (.ifCond .ge 9, 3) := by decide +kernel
theorem dX12_at_18 : decode cX12_at 18 = .ok (.aload_n 0, 1) := by decide +kernel
theorem dX12_at_19 : decode cX12_at 19 = .ok (.iconst 1, 1) := by decide +kernel
theorem dX12_at_20 : decode cX12_at 20 = .ok (.invokevirtual 145, 3) := by decide +kernel
theorem dX12_at_23 : decode cX12_at 23 = .ok (.ireturn, 1) := by decide +kernel
theorem dX12_at_24 : decode cX12_at 24 = .ok (.iload_n 2, 1) := by decide +kernel
theorem dX12_at_25 : decode cX12_at 25 = .ok (.iconst 0, 1) := by decide +kernel
theorem dX12_at_26 : decode cX12_at 26 = .ok (.aload_n 0, 1) := by decide +kernel
theorem dX12_at_27 : decode cX12_at 27 = .ok (.getfield 13, 3) := by decide +kernel
theorem dX12_at_30 : decode cX12_at 30 = .ok (.iload_n 1, 1) := by decide +kernel
theorem dX12_at_31 : decode cX12_at 31 = .ok (.iaload, 1) := by decide +kernel
theorem dX12_at_32 : decode cX12_at 32 = .ok (.iconst 1, 1) := by decide +kernel
theorem dX12_at_33 : decode cX12_at 33 = .ok (.isub, 1) := by decide +kernel
theorem dX12_at_34 : decode cX12_at 34 = .ok (.invokestatic 131, 3) := by decide +kernel
theorem dX12_at_37 : decode cX12_at 37 = .ok (.ifCond .eq 17, 3) := by decide +kernel
theorem dX12_at_40 : decode cX12_at 40 = .ok (.aload_n 0, 1) := by decide +kernel
theorem dX12_at_41 : decode cX12_at 41 = .ok (.aload_n 0, 1) := by decide +kernel
theorem dX12_at_42 : decode cX12_at 42 = .ok (.iload_n 1, 1) := by decide +kernel
theorem dX12_at_43 : decode cX12_at 43 = .ok (.iload_n 2, 1) := by decide +kernel
theorem dX12_at_44 : decode cX12_at 44 = .ok (.invokevirtual 149, 3) := by decide +kernel
theorem dX12_at_47 : decode cX12_at 47 = .ok (.iconst 1, 1) := by decide +kernel
theorem dX12_at_48 : decode cX12_at 48 = .ok (.invokevirtual 153, 3) := by decide +kernel
theorem dX12_at_51 : decode cX12_at 51 = .ok (.goto 8, 3) := by decide +kernel
theorem dX12_at_54 : decode cX12_at 54 = .ok (.aload_n 0, 1) := by decide +kernel
theorem dX12_at_55 : decode cX12_at 55 = .ok (.iconst 2, 1) := by decide +kernel
theorem dX12_at_56 : decode cX12_at 56 = .ok (.invokevirtual 145, 3) := by decide +kernel
theorem dX12_at_59 : decode cX12_at 59 = .ok (.ireturn, 1) := by decide +kernel
theorem dX12_tear_0 : decode cX12_tear 0 = .ok (.iload_n 1, 1) := by decide +kernel
theorem dX12_tear_1 : decode cX12_tear 1 = .ok (.invokestatic 141, 3) := by decide +kernel
theorem dX12_tear_4 : decode cX12_tear 4 = .ok (.ifCond .ne 5, 3) := by decide +kernel
theorem dX12_tear_7 : decode cX12_tear 7 = .ok (.iconst (-1), 1) := by decide +kernel
theorem dX12_tear_8 : decode cX12_tear 8 = .ok (.ireturn, 1) := by decide +kernel
theorem dX12_tear_9 : decode cX12_tear 9 = .ok (.aload_n 0, 1) := by decide +kernel
theorem dX12_tear_10 : decode cX12_tear 10 = .ok (.getfield 13, 3) := by decide +kernel
theorem dX12_tear_13 : decode cX12_tear 13 = .ok (.iload_n 1, 1) := by decide +kernel
theorem dX12_tear_14 : decode cX12_tear 14 = .ok (.iaload, 1) := by decide +kernel
theorem dX12_tear_15 : decode cX12_tear 15 = .ok (.ifCond .ge 9, 3) := by decide +kernel
theorem dX12_tear_18 : decode cX12_tear 18 = .ok (.aload_n 0, 1) := by decide +kernel
theorem dX12_tear_19 : decode cX12_tear 19 = .ok (.iconst 1, 1) := by decide +kernel
theorem dX12_tear_20 : decode cX12_tear 20 = .ok (.invokevirtual 145, 3) := by decide +kernel
theorem dX12_tear_23 : decode cX12_tear 23 = .ok (.ireturn, 1) := by decide +kernel
theorem dX12_tear_24 : decode cX12_tear 24 = .ok (.aload_n 0, 1) := by decide +kernel
theorem dX12_tear_25 : decode cX12_tear 25 = .ok (.getfield 13, 3) := by decide +kernel
theorem dX12_tear_28 : decode cX12_tear 28 = .ok (.iload_n 1, 1) := by decide +kernel
theorem dX12_tear_29 : decode cX12_tear 29 = .ok (.iconst (-1), 1) := by decide +kernel
theorem dX12_tear_30 : decode cX12_tear 30 = .ok (.iastore, 1) := by decide +kernel
theorem dX12_tear_31 : decode cX12_tear 31 = .ok (.iconst 1, 1) := by decide +kernel
theorem dX12_tear_32 : decode cX12_tear 32 = .ok (.ireturn, 1) := by decide +kernel
theorem dX12_copy_0 : decode cX12_copy 0 = .ok (.iload_n 1, 1) := by decide +kernel
theorem dX12_copy_1 : decode cX12_copy 1 = .ok (.invokestatic 141, 3) := by decide +kernel
theorem dX12_copy_4 : decode cX12_copy 4 = .ok (.ifCond .eq 10, 3) := by decide +kernel
theorem dX12_copy_7 : decode cX12_copy 7 = .ok (.iload_n 3, 1) := by decide +kernel
theorem dX12_copy_8 : decode cX12_copy 8 = .ok (.invokestatic 141, 3) := by decide +kernel
theorem dX12_copy_11 : decode cX12_copy 11 = .ok (.ifCond .ne 5, 3) := by decide +kernel
theorem dX12_copy_14 : decode cX12_copy 14 = .ok (.iconst (-1), 1) := by decide +kernel
theorem dX12_copy_15 : decode cX12_copy 15 = .ok (.ireturn, 1) := by decide +kernel
theorem dX12_copy_16 : decode cX12_copy 16 = .ok (.iload 5, 2) := by decide +kernel
theorem dX12_copy_18 : decode cX12_copy 18 = .ok (.ifCond .ge 9, 3) := by decide +kernel
theorem dX12_copy_21 : decode cX12_copy 21 = .ok (.aload_n 0, 1) := by decide +kernel
theorem dX12_copy_22 : decode cX12_copy 22 = .ok (.iconst 5, 1) := by decide +kernel
theorem dX12_copy_23 : decode cX12_copy 23 = .ok (.invokevirtual 145, 3) := by decide +kernel
theorem dX12_copy_26 : decode cX12_copy 26 = .ok (.ireturn, 1) := by decide +kernel
theorem dX12_copy_27 : decode cX12_copy 27 = .ok (.aload_n 0, 1) := by decide +kernel
theorem dX12_copy_28 : decode cX12_copy 28 = .ok (.getfield 13, 3) := by decide +kernel
theorem dX12_copy_31 : decode cX12_copy 31 = .ok (.iload_n 1, 1) := by decide +kernel
theorem dX12_copy_32 : decode cX12_copy 32 = .ok (.iaload, 1) := by decide +kernel
theorem dX12_copy_33 : decode cX12_copy 33 = .ok (.ifCond .lt 12, 3) := by decide +kernel
theorem dX12_copy_36 : decode cX12_copy 36 = .ok (.aload_n 0, 1) := by decide +kernel
theorem dX12_copy_37 : decode cX12_copy 37 = .ok (.getfield 13, 3) := by decide +kernel
theorem dX12_copy_40 : decode cX12_copy 40 = .ok (.iload_n 3, 1) := by decide +kernel
theorem dX12_copy_41 : decode cX12_copy 41 = .ok (.iaload, 1) := by decide +kernel
theorem dX12_copy_42 : decode cX12_copy 42 = .ok (.ifCond .ge 9, 3) := by decide +kernel
theorem dX12_copy_45 : decode cX12_copy 45 = .ok (.aload_n 0, 1) := by decide +kernel
theorem dX12_copy_46 : decode cX12_copy 46 = .ok (.iconst 1, 1) := by decide +kernel
theorem dX12_copy_47 : decode cX12_copy 47 = .ok (.invokevirtual 145, 3) := by decide +kernel
theorem dX12_copy_50 : decode cX12_copy 50 = .ok (.ireturn, 1) := by decide +kernel
theorem dX12_copy_51 : decode cX12_copy 51 = .ok (.iload_n 2, 1) := by decide +kernel
theorem dX12_copy_52 : decode cX12_copy 52 = .ok (.ifCond .lt 43, 3) := by decide +kernel
theorem dX12_copy_55 : decode cX12_copy 55 = .ok (.iload 4, 2) := by decide +kernel
theorem dX12_copy_57 : decode cX12_copy 57 = .ok (.ifCond .lt 38, 3) := by decide +kernel
theorem dX12_copy_60 : decode cX12_copy 60 = .ok (.iload_n 2, 1) := by decide +kernel
theorem dX12_copy_61 : decode cX12_copy 61 = .ok (.i2l, 1) := by decide +kernel
theorem dX12_copy_62 : decode cX12_copy 62 = .ok (.iload 5, 2) := by decide +kernel
theorem dX12_copy_64 : decode cX12_copy 64 = .ok (.i2l, 1) := by decide +kernel
theorem dX12_copy_65 : decode cX12_copy 65 = .ok (.ladd, 1) := by decide +kernel
theorem dX12_copy_66 : decode cX12_copy 66 = .ok (.aload_n 0, 1) := by decide +kernel
theorem dX12_copy_67 : decode cX12_copy 67 = .ok (.getfield 13, 3) := by decide +kernel
theorem dX12_copy_70 : decode cX12_copy 70 = .ok (.iload_n 1, 1) := by decide +kernel
theorem dX12_copy_71 : decode cX12_copy 71 = .ok (.iaload, 1) := by decide +kernel
theorem dX12_copy_72 : decode cX12_copy 72 = .ok (.i2l, 1) := by decide +kernel
theorem dX12_copy_73 : decode cX12_copy 73 = .ok (.lcmp, 1) := by decide +kernel
theorem dX12_copy_74 : decode cX12_copy 74 = .ok (.ifCond .gt 21, 3) := by decide +kernel
theorem dX12_copy_77 : decode cX12_copy 77 = .ok (.iload 4, 2) := by decide +kernel
theorem dX12_copy_79 : decode cX12_copy 79 = .ok (.i2l, 1) := by decide +kernel
theorem dX12_copy_80 : decode cX12_copy 80 = .ok (.iload 5, 2) := by decide +kernel
theorem dX12_copy_82 : decode cX12_copy 82 = .ok (.i2l, 1) := by decide +kernel
theorem dX12_copy_83 : decode cX12_copy 83 = .ok (.ladd, 1) := by decide +kernel
theorem dX12_copy_84 : decode cX12_copy 84 = .ok (.aload_n 0, 1) := by decide +kernel
theorem dX12_copy_85 : decode cX12_copy 85 = .ok (.getfield 13, 3) := by decide +kernel
theorem dX12_copy_88 : decode cX12_copy 88 = .ok (.iload_n 3, 1) := by decide +kernel
theorem dX12_copy_89 : decode cX12_copy 89 = .ok (.iaload, 1) := by decide +kernel
theorem dX12_copy_90 : decode cX12_copy 90 = .ok (.i2l, 1) := by decide +kernel
theorem dX12_copy_91 : decode cX12_copy 91 = .ok (.lcmp, 1) := by decide +kernel
theorem dX12_copy_92 : decode cX12_copy 92 = .ok (.ifCond .le 9, 3) := by decide +kernel
theorem dX12_copy_95 : decode cX12_copy 95 = .ok (.aload_n 0, 1) := by decide +kernel
theorem dX12_copy_96 : decode cX12_copy 96 = .ok (.iconst 2, 1) := by decide +kernel
theorem dX12_copy_97 : decode cX12_copy 97 = .ok (.invokevirtual 145, 3) := by decide +kernel
theorem dX12_copy_100 : decode cX12_copy 100 = .ok (.ireturn, 1) := by decide +kernel
theorem dX12_copy_101 : decode cX12_copy 101 = .ok (.iconst 0, 1) := by decide +kernel
theorem dX12_copy_102 : decode cX12_copy 102 = .ok (.istore 6, 2) := by decide +kernel
theorem dX12_copy_104 : decode cX12_copy 104 = .ok (.iload 6, 2) := by decide +kernel
theorem dX12_copy_106 : decode cX12_copy 106 = .ok (.iload 5, 2) := by decide +kernel
theorem dX12_copy_108 : decode cX12_copy 108 = .ok (.if_icmp .ge 25, 3) := by decide +kernel
theorem dX12_copy_111 : decode cX12_copy 111 = .ok (.aload_n 0, 1) := by decide +kernel
theorem dX12_copy_112 : decode cX12_copy 112 = .ok (.getfield 19, 3) := by decide +kernel
theorem dX12_copy_115 : decode cX12_copy 115 = .ok (.iload 6, 2) := by decide +kernel
theorem dX12_copy_117 : decode cX12_copy 117 = .ok (.aload_n 0, 1) := by decide +kernel
theorem dX12_copy_118 : decode cX12_copy 118 = .ok (.iload_n 1, 1) := by decide +kernel
theorem dX12_copy_119 : decode cX12_copy 119 = .ok (.iload_n 2, 1) := by decide +kernel
theorem dX12_copy_120 : decode cX12_copy 120 = .ok (.iload 6, 2) := by decide +kernel
theorem dX12_copy_122 : decode cX12_copy 122 = .ok (.iadd, 1) := by decide +kernel
theorem dX12_copy_123 : decode cX12_copy 123 = .ok (.invokevirtual 149, 3) := by decide +kernel
theorem dX12_copy_126 : decode cX12_copy 126 = .ok (.iastore, 1) := by decide +kernel
theorem dX12_copy_127 : decode cX12_copy 127 = .ok (.iinc 6 1, 3) := by decide +kernel
theorem dX12_copy_130 : decode cX12_copy 130 = .ok (.goto (-26), 3) := by decide +kernel
theorem dX12_copy_133 : decode cX12_copy 133 = .ok (.iconst 0, 1) := by decide +kernel
theorem dX12_copy_134 : decode cX12_copy 134 = .ok (.istore 6, 2) := by decide +kernel
theorem dX12_copy_136 : decode cX12_copy 136 = .ok (.iload 6, 2) := by decide +kernel
theorem dX12_copy_138 : decode cX12_copy 138 = .ok (.iload 5, 2) := by decide +kernel
theorem dX12_copy_140 : decode cX12_copy 140 = .ok (.if_icmp .ge 31, 3) := by decide +kernel
theorem dX12_copy_143 : decode cX12_copy 143 = .ok (.aload_n 0, 1) := by decide +kernel
theorem dX12_copy_144 : decode cX12_copy 144 = .ok (.getfield 16, 3) := by decide +kernel
theorem dX12_copy_147 : decode cX12_copy 147 = .ok (.bipush 40, 2) := by decide +kernel
theorem dX12_copy_149 : decode cX12_copy 149 = .ok (.iload_n 3, 1) := by decide +kernel
theorem dX12_copy_150 : decode cX12_copy 150 = .ok (.imul, 1) := by decide +kernel
theorem dX12_copy_151 : decode cX12_copy 151 = .ok (.iload 4, 2) := by decide +kernel
theorem dX12_copy_153 : decode cX12_copy 153 = .ok (.iadd, 1) := by decide +kernel
theorem dX12_copy_154 : decode cX12_copy 154 = .ok (.iload 6, 2) := by decide +kernel
theorem dX12_copy_156 : decode cX12_copy 156 = .ok (.iadd, 1) := by decide +kernel
theorem dX12_copy_157 : decode cX12_copy 157 = .ok (.aload_n 0, 1) := by decide +kernel
theorem dX12_copy_158 : decode cX12_copy 158 = .ok (.getfield 19, 3) := by decide +kernel
theorem dX12_copy_161 : decode cX12_copy 161 = .ok (.iload 6, 2) := by decide +kernel
theorem dX12_copy_163 : decode cX12_copy 163 = .ok (.iaload, 1) := by decide +kernel
theorem dX12_copy_164 : decode cX12_copy 164 = .ok (.iastore, 1) := by decide +kernel
theorem dX12_copy_165 : decode cX12_copy 165 = .ok (.iinc 6 1, 3) := by decide +kernel
theorem dX12_copy_168 : decode cX12_copy 168 = .ok (.goto (-32), 3) := by decide +kernel
theorem dX12_copy_171 : decode cX12_copy 171 = .ok (.iconst 1, 1) := by decide +kernel
theorem dX12_copy_172 : decode cX12_copy 172 = .ok (.ireturn, 1) := by decide +kernel
theorem dX12_mean_0 : decode cX12_mean 0 = .ok (.iload_n 1, 1) := by decide +kernel
theorem dX12_mean_1 : decode cX12_mean 1 = .ok (.invokestatic 141, 3) := by decide +kernel
theorem dX12_mean_4 : decode cX12_mean 4 = .ok (.ifCond .ne 5, 3) := by decide +kernel
theorem dX12_mean_7 : decode cX12_mean 7 = .ok (.iconst (-1), 1) := by decide +kernel
theorem dX12_mean_8 : decode cX12_mean 8 = .ok (.ireturn, 1) := by decide +kernel
theorem dX12_mean_9 : decode cX12_mean 9 = .ok (.aload_n 0, 1) := by decide +kernel
theorem dX12_mean_10 : decode cX12_mean 10 = .ok (.getfield 13, 3) := by decide +kernel
theorem dX12_mean_13 : decode cX12_mean 13 = .ok (.iload_n 1, 1) := by decide +kernel
theorem dX12_mean_14 : decode cX12_mean 14 = .ok (.iaload, 1) := by decide +kernel
theorem dX12_mean_15 : decode cX12_mean 15 = .ok (.ifCond .ge 9, 3) := by decide +kernel
theorem dX12_mean_18 : decode cX12_mean 18 = .ok (.aload_n 0, 1) := by decide +kernel
theorem dX12_mean_19 : decode cX12_mean 19 = .ok (.iconst 1, 1) := by decide +kernel
theorem dX12_mean_20 : decode cX12_mean 20 = .ok (.invokevirtual 145, 3) := by decide +kernel
theorem dX12_mean_23 : decode cX12_mean 23 = .ok (.ireturn, 1) := by decide +kernel
theorem dX12_mean_24 : decode cX12_mean 24 = .ok (.aload_n 0, 1) := by decide +kernel
theorem dX12_mean_25 : decode cX12_mean 25 = .ok (.getfield 13, 3) := by decide +kernel
theorem dX12_mean_28 : decode cX12_mean 28 = .ok (.iload_n 1, 1) := by decide +kernel
theorem dX12_mean_29 : decode cX12_mean 29 = .ok (.iaload, 1) := by decide +kernel
theorem dX12_mean_30 : decode cX12_mean 30 = .ok (.ifCond .ne 9, 3) := by decide +kernel
theorem dX12_mean_33 : decode cX12_mean 33 = .ok (.aload_n 0, 1) := by decide +kernel
theorem dX12_mean_34 : decode cX12_mean 34 = .ok (.iconst 4, 1) := by decide +kernel
theorem dX12_mean_35 : decode cX12_mean 35 = .ok (.invokevirtual 145, 3) := by decide +kernel
theorem dX12_mean_38 : decode cX12_mean 38 = .ok (.ireturn, 1) := by decide +kernel
theorem dX12_mean_39 : decode cX12_mean 39 = .ok (.lconst 0, 1) := by decide +kernel
theorem dX12_mean_40 : decode cX12_mean 40 = .ok (.lstore_n 2, 1) := by decide +kernel
theorem dX12_mean_41 : decode cX12_mean 41 = .ok (.iconst 0, 1) := by decide +kernel
theorem dX12_mean_42 : decode cX12_mean 42 = .ok (.istore 4, 2) := by decide +kernel
theorem dX12_mean_44 : decode cX12_mean 44 = .ok (.iload 4, 2) := by decide +kernel
theorem dX12_mean_46 : decode cX12_mean 46 = .ok (.aload_n 0, 1) := by decide +kernel
theorem dX12_mean_47 : decode cX12_mean 47 = .ok (.getfield 13, 3) := by decide +kernel
theorem dX12_mean_50 : decode cX12_mean 50 = .ok (.iload_n 1, 1) := by decide +kernel
theorem dX12_mean_51 : decode cX12_mean 51 = .ok (.iaload, 1) := by decide +kernel
theorem dX12_mean_52 : decode cX12_mean 52 = .ok (.if_icmp .ge 20, 3) := by decide +kernel
theorem dX12_mean_55 : decode cX12_mean 55 = .ok (.lload_n 2, 1) := by decide +kernel
theorem dX12_mean_56 : decode cX12_mean 56 = .ok (.aload_n 0, 1) := by decide +kernel
theorem dX12_mean_57 : decode cX12_mean 57 = .ok (.iload_n 1, 1) := by decide +kernel
theorem dX12_mean_58 : decode cX12_mean 58 = .ok (.iload 4, 2) := by decide +kernel
theorem dX12_mean_60 : decode cX12_mean 60 = .ok (.invokevirtual 149, 3) := by decide +kernel
theorem dX12_mean_63 : decode cX12_mean 63 = .ok (.i2l, 1) := by decide +kernel
theorem dX12_mean_64 : decode cX12_mean 64 = .ok (.ladd, 1) := by decide +kernel
theorem dX12_mean_65 : decode cX12_mean 65 = .ok (.lstore_n 2, 1) := by decide +kernel
theorem dX12_mean_66 : decode cX12_mean 66 = .ok (.iinc 4 1, 3) := by decide +kernel
theorem dX12_mean_69 : decode cX12_mean 69 = .ok (.goto (-25), 3) := by decide +kernel
theorem dX12_mean_72 : decode cX12_mean 72 = .ok (.aload_n 0, 1) := by decide +kernel
theorem dX12_mean_73 : decode cX12_mean 73 = .ok (.lload_n 2, 1) := by decide +kernel
theorem dX12_mean_74 : decode cX12_mean 74 = .ok (.aload_n 0, 1) := by decide +kernel
theorem dX12_mean_75 : decode cX12_mean 75 = .ok (.getfield 13, 3) := by decide +kernel
theorem dX12_mean_78 : decode cX12_mean 78 = .ok (.iload_n 1, 1) := by decide +kernel
theorem dX12_mean_79 : decode cX12_mean 79 = .ok (.iaload, 1) := by decide +kernel
theorem dX12_mean_80 : decode cX12_mean 80 = .ok (.i2l, 1) := by decide +kernel
theorem dX12_mean_81 : decode cX12_mean 81 = .ok (.ldiv, 1) := by decide +kernel
theorem dX12_mean_82 : decode cX12_mean 82 = .ok (.l2i, 1) := by decide +kernel
theorem dX12_mean_83 : decode cX12_mean 83 = .ok (.iconst 1, 1) := by decide +kernel
theorem dX12_mean_84 : decode cX12_mean 84 = .ok (.invokevirtual 153, 3) := by decide +kernel
theorem dX12_mean_87 : decode cX12_mean 87 = .ok (.ireturn, 1) := by decide +kernel
theorem dX12_isText_0 : decode cX12_isText 0 = .ok (.iload_n 0, 1) := by decide +kernel
theorem dX12_isText_1 : decode cX12_isText 1 = .ok (.iconst 0, 1) := by decide +kernel
theorem dX12_isText_2 : decode cX12_isText 2 = .ok (.iconst 3, 1) := by decide +kernel
theorem dX12_isText_3 : decode cX12_isText 3 = .ok (.invokestatic 131, 3) := by decide +kernel
theorem dX12_isText_6 : decode cX12_isText 6 = .ok (.ireturn, 1) := by decide +kernel
theorem dX12_text_0 : decode cX12_text 0 = .ok (.iload_n 1, 1) := by decide +kernel
theorem dX12_text_1 : decode cX12_text 1 = .ok (.invokestatic 156, 3) := by decide +kernel
theorem dX12_text_4 : decode cX12_text 4 = .ok (.ifCond .eq 9, 3) := by decide +kernel
theorem dX12_text_7 : decode cX12_text 7 = .ok (.iload_n 2, 1) := by decide +kernel
theorem dX12_text_8 : decode cX12_text 8 = .ok (.bipush 80, 2) := by decide +kernel
theorem dX12_text_10 : decode cX12_text 10 = .ok (.if_icmp .le 5, 3) := by decide +kernel
theorem dX12_text_13 : decode cX12_text 13 = .ok (.iconst (-1), 1) := by decide +kernel
theorem dX12_text_14 : decode cX12_text 14 = .ok (.ireturn, 1) := by decide +kernel
theorem dX12_text_15 : decode cX12_text 15 = .ok (.iload_n 2, 1) := by decide +kernel
theorem dX12_text_16 : decode cX12_text 16 = .ok (.ifCond .ge 9, 3) := by decide +kernel
theorem dX12_text_19 : decode cX12_text 19 = .ok (.aload_n 0, 1) := by decide +kernel
theorem dX12_text_20 : decode cX12_text 20 = .ok (.iconst 5, 1) := by decide +kernel
theorem dX12_text_21 : decode cX12_text 21 = .ok (.invokevirtual 145, 3) := by decide +kernel
theorem dX12_text_24 : decode cX12_text 24 = .ok (.ireturn, 1) := by decide +kernel
theorem dX12_text_25 : decode cX12_text 25 = .ok (.aload_n 0, 1) := by decide +kernel
theorem dX12_text_26 : decode cX12_text 26 = .ok (.getfield 22, 3) := by decide +kernel
theorem dX12_text_29 : decode cX12_text 29 = .ok (.iload_n 1, 1) := by decide +kernel
theorem dX12_text_30 : decode cX12_text 30 = .ok (.iload_n 2, 1) := by decide +kernel
theorem dX12_text_31 : decode cX12_text 31 = .ok (.iastore, 1) := by decide +kernel
theorem dX12_text_32 : decode cX12_text 32 = .ok (.iconst 0, 1) := by decide +kernel
theorem dX12_text_33 : decode cX12_text 33 = .ok (.istore_n 3, 1) := by decide +kernel
theorem dX12_text_34 : decode cX12_text 34 = .ok (.iload_n 3, 1) := by decide +kernel
theorem dX12_text_35 : decode cX12_text 35 = .ok (.bipush 80, 2) := by decide +kernel
theorem dX12_text_37 : decode cX12_text 37 = .ok (.if_icmp .ge 22, 3) := by decide +kernel
theorem dX12_text_40 : decode cX12_text 40 = .ok (.aload_n 0, 1) := by decide +kernel
theorem dX12_text_41 : decode cX12_text 41 = .ok (.getfield 25, 3) := by decide +kernel
theorem dX12_text_44 : decode cX12_text 44 = .ok (.bipush 80, 2) := by decide +kernel
theorem dX12_text_46 : decode cX12_text 46 = .ok (.iload_n 1, 1) := by decide +kernel
theorem dX12_text_47 : decode cX12_text 47 = .ok (.imul, 1) := by decide +kernel
theorem dX12_text_48 : decode cX12_text 48 = .ok (.iload_n 3, 1) := by decide +kernel
theorem dX12_text_49 : decode cX12_text 49 = .ok (.iadd, 1) := by decide +kernel
theorem dX12_text_50 : decode cX12_text 50 = .ok (.bipush 32, 2) := by decide +kernel
theorem dX12_text_52 : decode cX12_text 52 = .ok (.bastore, 1) := by decide +kernel
theorem dX12_text_53 : decode cX12_text 53 = .ok (.iinc 3 1, 3) := by decide +kernel
theorem dX12_text_56 : decode cX12_text 56 = .ok (.goto (-22), 3) := by decide +kernel
theorem dX12_text_59 : decode cX12_text 59 = .ok (.iload_n 2, 1) := by decide +kernel
theorem dX12_text_60 : decode cX12_text 60 = .ok (.ireturn, 1) := by decide +kernel
theorem dX12_put_0 : decode cX12_put 0 = .ok (.iload_n 1, 1) := by decide +kernel
theorem dX12_put_1 : decode cX12_put 1 = .ok (.invokestatic 156, 3) := by decide +kernel
theorem dX12_put_4 : decode cX12_put 4 = .ok (.ifCond .ne 5, 3) := by decide +kernel
theorem dX12_put_7 : decode cX12_put 7 = .ok (.iconst (-1), 1) := by decide +kernel
theorem dX12_put_8 : decode cX12_put 8 = .ok (.ireturn, 1) := by decide +kernel
theorem dX12_put_9 : decode cX12_put 9 = .ok (.aload_n 0, 1) := by decide +kernel
theorem dX12_put_10 : decode cX12_put 10 = .ok (.getfield 22, 3) := by decide +kernel
theorem dX12_put_13 : decode cX12_put 13 = .ok (.iload_n 1, 1) := by decide +kernel
theorem dX12_put_14 : decode cX12_put 14 = .ok (.iaload, 1) := by decide +kernel
theorem dX12_put_15 : decode cX12_put 15 = .ok (.ifCond .ge 9, 3) := by decide +kernel
theorem dX12_put_18 : decode cX12_put 18 = .ok (.aload_n 0, 1) := by decide +kernel
theorem dX12_put_19 : decode cX12_put 19 = .ok (.iconst 1, 1) := by decide +kernel
theorem dX12_put_20 : decode cX12_put 20 = .ok (.invokevirtual 145, 3) := by decide +kernel
theorem dX12_put_23 : decode cX12_put 23 = .ok (.ireturn, 1) := by decide +kernel
theorem dX12_put_24 : decode cX12_put 24 = .ok (.iload_n 2, 1) := by decide +kernel
theorem dX12_put_25 : decode cX12_put 25 = .ok (.iconst 0, 1) := by decide +kernel
theorem dX12_put_26 : decode cX12_put 26 = .ok (.aload_n 0, 1) := by decide +kernel
theorem dX12_put_27 : decode cX12_put 27 = .ok (.getfield 22, 3) := by decide +kernel
theorem dX12_put_30 : decode cX12_put 30 = .ok (.iload_n 1, 1) := by decide +kernel
theorem dX12_put_31 : decode cX12_put 31 = .ok (.iaload, 1) := by decide +kernel
theorem dX12_put_32 : decode cX12_put 32 = .ok (.iconst 1, 1) := by decide +kernel
theorem dX12_put_33 : decode cX12_put 33 = .ok (.isub, 1) := by decide +kernel
theorem dX12_put_34 : decode cX12_put 34 = .ok (.invokestatic 131, 3) := by decide +kernel
theorem dX12_put_37 : decode cX12_put 37 = .ok (.ifCond .ne 9, 3) := by decide +kernel
theorem dX12_put_40 : decode cX12_put 40 = .ok (.aload_n 0, 1) := by decide +kernel
theorem dX12_put_41 : decode cX12_put 41 = .ok (.iconst 2, 1) := by decide +kernel
theorem dX12_put_42 : decode cX12_put 42 = .ok (.invokevirtual 145, 3) := by decide +kernel
theorem dX12_put_45 : decode cX12_put 45 = .ok (.ireturn, 1) := by decide +kernel
theorem dX12_put_46 : decode cX12_put 46 = .ok (.aload_n 0, 1) := by decide +kernel
theorem dX12_put_47 : decode cX12_put 47 = .ok (.getfield 25, 3) := by decide +kernel
theorem dX12_put_50 : decode cX12_put 50 = .ok (.bipush 80, 2) := by decide +kernel
theorem dX12_put_52 : decode cX12_put 52 = .ok (.iload_n 1, 1) := by decide +kernel
theorem dX12_put_53 : decode cX12_put 53 = .ok (.imul, 1) := by decide +kernel
theorem dX12_put_54 : decode cX12_put 54 = .ok (.iload_n 2, 1) := by decide +kernel
theorem dX12_put_55 : decode cX12_put 55 = .ok (.iadd, 1) := by decide +kernel
theorem dX12_put_56 : decode cX12_put 56 = .ok (.baload, 1) := by decide +kernel
theorem dX12_put_57 : decode cX12_put 57 = .ok (.istore 4, 2) := by decide +kernel
theorem dX12_put_59 : decode cX12_put 59 = .ok (.aload_n 0, 1) := by decide +kernel
theorem dX12_put_60 : decode cX12_put 60 = .ok (.getfield 25, 3) := by decide +kernel
theorem dX12_put_63 : decode cX12_put 63 = .ok (.bipush 80, 2) := by decide +kernel
theorem dX12_put_65 : decode cX12_put 65 = .ok (.iload_n 1, 1) := by decide +kernel
theorem dX12_put_66 : decode cX12_put 66 = .ok (.imul, 1) := by decide +kernel
theorem dX12_put_67 : decode cX12_put 67 = .ok (.iload_n 2, 1) := by decide +kernel
theorem dX12_put_68 : decode cX12_put 68 = .ok (.iadd, 1) := by decide +kernel
theorem dX12_put_69 : decode cX12_put 69 = .ok (.iload_n 3, 1) := by decide +kernel
theorem dX12_put_70 : decode cX12_put 70 = .ok (.i2b, 1) := by decide +kernel
theorem dX12_put_71 : decode cX12_put 71 = .ok (.bastore, 1) := by decide +kernel
theorem dX12_put_72 : decode cX12_put 72 = .ok (.sipush 1000, 3) := by decide +kernel
theorem dX12_put_75 : decode cX12_put 75 = .ok (.iload 4, 2) := by decide +kernel
theorem dX12_put_77 : decode cX12_put 77 = .ok (.iadd, 1) := by decide +kernel
theorem dX12_put_78 : decode cX12_put 78 = .ok (.ireturn, 1) := by decide +kernel
theorem dX12_byteAt_0 : decode cX12_byteAt 0 = .ok (.iload_n 2, 1) := by decide +kernel
theorem dX12_byteAt_1 : decode cX12_byteAt 1 = .ok (.aload_n 0, 1) := by decide +kernel
theorem dX12_byteAt_2 : decode cX12_byteAt 2 = .ok (.getfield 22, 3) := by decide +kernel
theorem dX12_byteAt_5 : decode cX12_byteAt 5 = .ok (.iload_n 1, 1) := by decide +kernel
theorem dX12_byteAt_6 : decode cX12_byteAt 6 = .ok (.iaload, 1) := by decide +kernel
theorem dX12_byteAt_7 : decode cX12_byteAt 7 = .ok (.if_icmp .ge 17, 3) := by decide +kernel
theorem dX12_byteAt_10 : decode cX12_byteAt 10 = .ok (.aload_n 0, 1) := by decide +kernel
theorem dX12_byteAt_11 : decode cX12_byteAt 11 = .ok (.getfield 25, 3) := by decide +kernel
theorem dX12_byteAt_14 : decode cX12_byteAt 14 = .ok (.bipush 80, 2) := by decide +kernel
theorem dX12_byteAt_16 : decode cX12_byteAt 16 = .ok (.iload_n 1, 1) := by decide +kernel
theorem dX12_byteAt_17 : decode cX12_byteAt 17 = .ok (.imul, 1) := by decide +kernel
theorem dX12_byteAt_18 : decode cX12_byteAt 18 = .ok (.iload_n 2, 1) := by decide +kernel
theorem dX12_byteAt_19 : decode cX12_byteAt 19 = .ok (.iadd, 1) := by decide +kernel
theorem dX12_byteAt_20 : decode cX12_byteAt 20 = .ok (.baload, 1) := by decide +kernel
theorem dX12_byteAt_21 : decode cX12_byteAt 21 = .ok (.goto 4, 3) := by decide +kernel
theorem dX12_byteAt_24 : decode cX12_byteAt 24 = .ok (.iconst 0, 1) := by decide +kernel
theorem dX12_byteAt_25 : decode cX12_byteAt 25 = .ok (.ireturn, 1) := by decide +kernel
theorem dX12_figure_0 : decode cX12_figure 0 = .ok (.aload_n 0, 1) := by decide +kernel
theorem dX12_figure_1 : decode cX12_figure 1 = .ok (.aload_n 0, 1) := by decide +kernel
theorem dX12_figure_2 : decode cX12_figure 2 = .ok (.iload_n 1, 1) := by decide +kernel
theorem dX12_figure_3 : decode cX12_figure 3 = .ok (.aload_n 0, 1) := by decide +kernel
theorem dX12_figure_4 : decode cX12_figure 4 = .ok (.getfield 159, 3) := by decide +kernel
theorem dX12_figure_7 : decode cX12_figure 7 = .ok (.invokevirtual 162, 3) := by decide +kernel
theorem dX12_figure_10 : decode cX12_figure 10 = .ok (.bipush 48, 2) := by decide +kernel
theorem dX12_figure_12 : decode cX12_figure 12 = .ok (.isub, 1) := by decide +kernel
theorem dX12_figure_13 : decode cX12_figure 13 = .ok (.putfield 165, 3) := by decide +kernel
theorem dX12_figure_16 : decode cX12_figure 16 = .ok (.aload_n 0, 1) := by decide +kernel
theorem dX12_figure_17 : decode cX12_figure 17 = .ok (.getfield 165, 3) := by decide +kernel
theorem dX12_figure_20 : decode cX12_figure 20 = .ok (.iconst 0, 1) := by decide +kernel
theorem dX12_figure_21 : decode cX12_figure 21 = .ok (.iload_n 2, 1) := by decide +kernel
theorem dX12_figure_22 : decode cX12_figure 22 = .ok (.invokestatic 131, 3) := by decide +kernel
theorem dX12_figure_25 : decode cX12_figure 25 = .ok (.istore_n 3, 1) := by decide +kernel
theorem dX12_figure_26 : decode cX12_figure 26 = .ok (.aload_n 0, 1) := by decide +kernel
theorem dX12_figure_27 : decode cX12_figure 27 = .ok (.dup, 1) := by decide +kernel
theorem dX12_figure_28 : decode cX12_figure 28 = .ok (.getfield 159, 3) := by decide +kernel
theorem dX12_figure_31 : decode cX12_figure 31 = .ok (.iload_n 3, 1) := by decide +kernel
theorem dX12_figure_32 : decode cX12_figure 32 = .ok (.ifCond .eq 7, 3) := by decide +kernel
theorem dX12_figure_35 : decode cX12_figure 35 = .ok (.iconst 1, 1) := by decide +kernel
theorem dX12_figure_36 : decode cX12_figure 36 = .ok (.goto 4, 3) := by decide +kernel
theorem dX12_figure_39 : decode cX12_figure 39 = .ok (.iconst 0, 1) := by decide +kernel
theorem dX12_figure_40 : decode cX12_figure 40 = .ok (.iadd, 1) := by decide +kernel
theorem dX12_figure_41 : decode cX12_figure 41 = .ok (.putfield 159, 3) := by decide +kernel
theorem dX12_figure_44 : decode cX12_figure 44 = .ok (.iload_n 3, 1) := by decide +kernel
theorem dX12_figure_45 : decode cX12_figure 45 = .ok (.ireturn, 1) := by decide +kernel
theorem dX12_isFigure_0 : decode cX12_isFigure 0 = .ok (.aload_n 0, 1) := by decide +kernel
theorem dX12_isFigure_1 : decode cX12_isFigure 1 = .ok (.iload_n 1, 1) := by decide +kernel
theorem dX12_isFigure_2 : decode cX12_isFigure 2 = .ok (.aload_n 0, 1) := by decide +kernel
theorem dX12_isFigure_3 : decode cX12_isFigure 3 = .ok (.getfield 159, 3) := by decide +kernel
theorem dX12_isFigure_6 : decode cX12_isFigure 6 = .ok (.invokevirtual 162, 3) := by decide +kernel
theorem dX12_isFigure_9 : decode cX12_isFigure 9 = .ok (.bipush 48, 2) := by decide +kernel
theorem dX12_isFigure_11 : decode cX12_isFigure 11 = .ok (.bipush 57, 2) := by decide +kernel
theorem dX12_isFigure_13 : decode cX12_isFigure 13 = .ok (.invokestatic 131, 3) := by decide +kernel
theorem dX12_isFigure_16 : decode cX12_isFigure 16 = .ok (.ireturn, 1) := by decide +kernel
theorem dX12_readsHand_0 : decode cX12_readsHand 0 = .ok (.aload_n 0, 1) := by decide +kernel
theorem dX12_readsHand_1 : decode cX12_readsHand 1 = .ok (.getfield 168, 3) := by decide +kernel
theorem dX12_readsHand_4 : decode cX12_readsHand 4 = .ok (.iconst 2, 1) := by decide +kernel
theorem dX12_readsHand_5 : decode cX12_readsHand 5 = .ok (.if_icmp .ne 5, 3) := by decide +kernel
theorem dX12_readsHand_8 : decode cX12_readsHand 8 = .ok (.iconst 0, 1) := by decide +kernel
theorem dX12_readsHand_9 : decode cX12_readsHand 9 = .ok (.ireturn, 1) := by decide +kernel
theorem dX12_readsHand_10 : decode cX12_readsHand 10 = .ok (.aload_n 0, 1) := by decide +kernel
theorem dX12_readsHand_11 : decode cX12_readsHand 11 = .ok (.dup, 1) := by decide +kernel
theorem dX12_readsHand_12 : decode cX12_readsHand 12 = .ok (.getfield 159, 3) := by decide +kernel
theorem dX12_readsHand_15 : decode cX12_readsHand 15 = .ok (.iconst 1, 1) := by decide +kernel
theorem dX12_readsHand_16 : decode cX12_readsHand 16 = .ok (.iadd, 1) := by decide +kernel
theorem dX12_readsHand_17 : decode cX12_readsHand 17 = .ok (.putfield 159, 3) := by decide +kernel
theorem dX12_readsHand_20 : decode cX12_readsHand 20 = .ok (.iconst 0, 1) := by decide +kernel
theorem dX12_readsHand_21 : decode cX12_readsHand 21 = .ok (.istore_n 2, 1) := by decide +kernel
theorem dX12_readsHand_22 : decode cX12_readsHand 22 = .ok (.iconst 0, 1) := by decide +kernel
theorem dX12_readsHand_23 : decode cX12_readsHand 23 = .ok (.istore_n 3, 1) := by decide +kernel
theorem dX12_readsHand_24 : decode cX12_readsHand 24 = .ok (.iload_n 2, 1) := by decide +kernel
theorem dX12_readsHand_25 : decode cX12_readsHand 25 = .ok (.iconst 3, 1) := by decide +kernel
theorem dX12_readsHand_26 : decode cX12_readsHand 26 = .ok (.if_icmp .ge 45, 3) := by decide +kernel
theorem dX12_readsHand_29 : decode cX12_readsHand 29 = .ok (.aload_n 0, 1) := by decide +kernel
theorem dX12_readsHand_30 : decode cX12_readsHand 30 = .ok (.iload_n 1, 1) := by decide +kernel
theorem dX12_readsHand_31 : decode cX12_readsHand 31 = .ok (.invokevirtual 171, 3) := by decide +kernel
theorem dX12_readsHand_34 : decode cX12_readsHand 34 = .ok (.ifCond .eq 37, 3) := by decide +kernel
theorem dX12_readsHand_37 : decode cX12_readsHand 37 = .ok (.bipush 10, 2) := by decide +kernel
theorem dX12_readsHand_39 : decode cX12_readsHand 39 = .ok (.iload_n 3, 1) := by decide +kernel
theorem dX12_readsHand_40 : decode cX12_readsHand 40 = .ok (.imul, 1) := by decide +kernel
theorem dX12_readsHand_41 : decode cX12_readsHand 41 = .ok (.aload_n 0, 1) := by decide +kernel
theorem dX12_readsHand_42 : decode cX12_readsHand 42 = .ok (.iload_n 1, 1) := by decide +kernel
theorem dX12_readsHand_43 : decode cX12_readsHand 43 = .ok (.aload_n 0, 1) := by decide +kernel
theorem dX12_readsHand_44 : decode cX12_readsHand 44 = .ok (.getfield 159, 3) := by decide +kernel
theorem dX12_readsHand_47 : decode cX12_readsHand 47 = .ok (.invokevirtual 162, 3) := by decide +kernel
theorem dX12_readsHand_50 : decode cX12_readsHand 50 = .ok (.iadd, 1) := by decide +kernel
theorem dX12_readsHand_51 : decode cX12_readsHand 51 = .ok (.bipush 48, 2) := by decide +kernel
theorem dX12_readsHand_53 : decode cX12_readsHand 53 = .ok (.isub, 1) := by decide +kernel
theorem dX12_readsHand_54 : decode cX12_readsHand 54 = .ok (.istore_n 3, 1) := by decide +kernel
theorem dX12_readsHand_55 : decode cX12_readsHand 55 = .ok (.aload_n 0, 1) := by decide +kernel
theorem dX12_readsHand_56 : decode cX12_readsHand 56 = .ok (.dup, 1) := by decide +kernel
theorem dX12_readsHand_57 : decode cX12_readsHand 57 = .ok (.getfield 159, 3) := by decide +kernel
theorem dX12_readsHand_60 : decode cX12_readsHand 60 = .ok (.iconst 1, 1) := by decide +kernel
theorem dX12_readsHand_61 : decode cX12_readsHand 61 = .ok (.iadd, 1) := by decide +kernel
theorem dX12_readsHand_62 : decode cX12_readsHand 62 = .ok (.putfield 159, 3) := by decide +kernel
theorem dX12_readsHand_65 : decode cX12_readsHand 65 = .ok (.iinc 2 1, 3) := by decide +kernel
theorem dX12_readsHand_68 : decode cX12_readsHand 68 = .ok (.goto (-44), 3) := by decide +kernel
theorem dX12_readsHand_71 : decode cX12_readsHand 71 = .ok (.iload_n 2, 1) := by decide +kernel
theorem dX12_readsHand_72 : decode cX12_readsHand 72 = .ok (.ifCond .eq 9, 3) := by decide +kernel
theorem dX12_readsHand_75 : decode cX12_readsHand 75 = .ok (.iload_n 3, 1) := by decide +kernel
theorem dX12_readsHand_76 : decode cX12_readsHand 76 = .ok (.bipush 120, 2) := by decide +kernel
theorem dX12_readsHand_78 : decode cX12_readsHand 78 = .ok (.if_icmp .lt 5, 3) := by decide +kernel
theorem dX12_readsHand_81 : decode cX12_readsHand 81 = .ok (.iconst 0, 1) := by decide +kernel
theorem dX12_readsHand_82 : decode cX12_readsHand 82 = .ok (.ireturn, 1) := by decide +kernel
theorem dX12_readsHand_83 : decode cX12_readsHand 83 = .ok (.aload_n 0, 1) := by decide +kernel
theorem dX12_readsHand_84 : decode cX12_readsHand 84 = .ok (.getfield 38, 3) := by decide +kernel
theorem dX12_readsHand_87 : decode cX12_readsHand 87 = .ok (.aload_n 0, 1) := by decide +kernel
theorem dX12_readsHand_88 : decode cX12_readsHand 88 = .ok (.getfield 168, 3) := by decide +kernel
theorem dX12_readsHand_91 : decode cX12_readsHand 91 = .ok (.iload_n 3, 1) := by decide +kernel
theorem dX12_readsHand_92 : decode cX12_readsHand 92 = .ok (.iastore, 1) := by decide +kernel
theorem dX12_readsHand_93 : decode cX12_readsHand 93 = .ok (.aload_n 0, 1) := by decide +kernel
theorem dX12_readsHand_94 : decode cX12_readsHand 94 = .ok (.dup, 1) := by decide +kernel
theorem dX12_readsHand_95 : decode cX12_readsHand 95 = .ok (.getfield 168, 3) := by decide +kernel
theorem dX12_readsHand_98 : decode cX12_readsHand 98 = .ok (.iconst 1, 1) := by decide +kernel
theorem dX12_readsHand_99 : decode cX12_readsHand 99 = .ok (.iadd, 1) := by decide +kernel
theorem dX12_readsHand_100 : decode cX12_readsHand 100 = .ok (.putfield 168, 3) := by decide +kernel
theorem dX12_readsHand_103 : decode cX12_readsHand 103 = .ok (.iconst 1, 1) := by decide +kernel
theorem dX12_readsHand_104 : decode cX12_readsHand 104 = .ok (.ireturn, 1) := by decide +kernel
theorem dX12_readsFinger_0 : decode cX12_readsFinger 0 = .ok (.aload_n 0, 1) := by decide +kernel
theorem dX12_readsFinger_1 : decode cX12_readsFinger 1 = .ok (.getfield 168, 3) := by decide +kernel
theorem dX12_readsFinger_4 : decode cX12_readsFinger 4 = .ok (.ifCond .eq 12, 3) := by decide +kernel
theorem dX12_readsFinger_7 : decode cX12_readsFinger 7 = .ok (.aload_n 0, 1) := by decide +kernel
theorem dX12_readsFinger_8 : decode cX12_readsFinger 8 = .ok (.getfield 174, 3) := by decide +kernel
theorem dX12_readsFinger_11 : decode cX12_readsFinger 11 = .ok (.bipush 6, 2) := by decide +kernel
theorem dX12_readsFinger_13 : decode cX12_readsFinger 13 = .ok (.if_icmp .ne 5, 3) := by decide +kernel
theorem dX12_readsFinger_16 : decode cX12_readsFinger 16 = .ok (.iconst 0, 1) := by decide +kernel
theorem dX12_readsFinger_17 : decode cX12_readsFinger 17 = .ok (.ireturn, 1) := by decide +kernel
theorem dX12_readsFinger_18 : decode cX12_readsFinger 18 = .ok (.aload_n 0, 1) := by decide +kernel
theorem dX12_readsFinger_19 : decode cX12_readsFinger 19 = .ok (.dup, 1) := by decide +kernel
theorem dX12_readsFinger_20 : decode cX12_readsFinger 20 = .ok (.getfield 159, 3) := by decide +kernel
theorem dX12_readsFinger_23 : decode cX12_readsFinger 23 = .ok (.iconst 1, 1) := by decide +kernel
theorem dX12_readsFinger_24 : decode cX12_readsFinger 24 = .ok (.iadd, 1) := by decide +kernel
theorem dX12_readsFinger_25 : decode cX12_readsFinger 25 = .ok (.putfield 159, 3) := by decide +kernel
theorem dX12_readsFinger_28 : decode cX12_readsFinger 28 = .ok (.aload_n 0, 1) := by decide +kernel
theorem dX12_readsFinger_29 : decode cX12_readsFinger 29 = .ok (.iload_n 1, 1) := by decide +kernel
theorem dX12_readsFinger_30 : decode cX12_readsFinger 30 = .ok (.bipush 7, 2) := by decide +kernel
theorem dX12_readsFinger_32 : decode cX12_readsFinger 32 = .ok (.invokevirtual 177, 3) := by decide +kernel
theorem dX12_readsFinger_35 : decode cX12_readsFinger 35 = .ok (.ifCond .ne 5, 3) := by decide +kernel
theorem dX12_readsFinger_38 : decode cX12_readsFinger 38 = .ok (.iconst 0, 1) := by decide +kernel
theorem dX12_readsFinger_39 : decode cX12_readsFinger 39 = .ok (.ireturn, 1) := by decide +kernel
theorem dX12_readsFinger_40 : decode cX12_readsFinger 40 = .ok (.iconst 4, 1) := by decide +kernel
theorem dX12_readsFinger_41 : decode cX12_readsFinger 41 = .ok (.aload_n 0, 1) := by decide +kernel
theorem dX12_readsFinger_42 : decode cX12_readsFinger 42 = .ok (.getfield 174, 3) := by decide +kernel
theorem dX12_readsFinger_45 : decode cX12_readsFinger 45 = .ok (.imul, 1) := by decide +kernel
theorem dX12_readsFinger_46 : decode cX12_readsFinger 46 = .ok (.istore_n 2, 1) := by decide +kernel
theorem dX12_readsFinger_47 : decode cX12_readsFinger 47 = .ok (.aload_n 0, 1) := by decide +kernel
theorem dX12_readsFinger_48 : decode cX12_readsFinger 48 = .ok (.getfield 41, 3) := by decide +kernel
theorem dX12_readsFinger_51 : decode cX12_readsFinger 51 = .ok (.iload_n 2, 1) := by decide +kernel
theorem dX12_readsFinger_52 : decode cX12_readsFinger 52 = .ok (.aload_n 0, 1) := by decide +kernel
theorem dX12_readsFinger_53 : decode cX12_readsFinger 53 = .ok (.getfield 168, 3) := by decide +kernel
theorem dX12_readsFinger_56 : decode cX12_readsFinger 56 = .ok (.iconst 1, 1) := by decide +kernel
theorem dX12_readsFinger_57 : decode cX12_readsFinger 57 = .ok (.isub, 1) := by decide +kernel
theorem dX12_readsFinger_58 : decode cX12_readsFinger 58 = .ok (.iastore, 1) := by decide +kernel
theorem dX12_readsFinger_59 : decode cX12_readsFinger 59 = .ok (.aload_n 0, 1) := by decide +kernel
theorem dX12_readsFinger_60 : decode cX12_readsFinger 60 = .ok (.getfield 41, 3) := by decide +kernel
theorem dX12_readsFinger_63 : decode cX12_readsFinger 63 = .ok (.iload_n 2, 1) := by decide +kernel
theorem dX12_readsFinger_64 : decode cX12_readsFinger 64 = .ok (.iconst 1, 1) := by decide +kernel
theorem dX12_readsFinger_65 : decode cX12_readsFinger 65 = .ok (.iadd, 1) := by decide +kernel
theorem dX12_readsFinger_66 : decode cX12_readsFinger 66 = .ok (.aload_n 0, 1) := by decide +kernel
theorem dX12_readsFinger_67 : decode cX12_readsFinger 67 = .ok (.getfield 165, 3) := by decide +kernel
theorem dX12_readsFinger_70 : decode cX12_readsFinger 70 = .ok (.iastore, 1) := by decide +kernel
theorem dX12_readsFinger_71 : decode cX12_readsFinger 71 = .ok (.aload_n 0, 1) := by decide +kernel
theorem dX12_readsFinger_72 : decode cX12_readsFinger 72 = .ok (.getfield 41, 3) := by decide +kernel
theorem dX12_readsFinger_75 : decode cX12_readsFinger 75 = .ok (.iload_n 2, 1) := by decide +kernel
theorem dX12_readsFinger_76 : decode cX12_readsFinger 76 = .ok (.iconst 2, 1) := by decide +kernel
theorem dX12_readsFinger_77 : decode cX12_readsFinger 77 = .ok (.iadd, 1) := by decide +kernel
theorem dX12_readsFinger_78 : decode cX12_readsFinger 78 = .ok (.aload_n 0, 1) := by decide +kernel
theorem dX12_readsFinger_79 : decode cX12_readsFinger 79 = .ok (.getfield 181, 3) := by decide +kernel
theorem dX12_readsFinger_82 : decode cX12_readsFinger 82 = .ok (.iastore, 1) := by decide +kernel
theorem dX12_readsFinger_83 : decode cX12_readsFinger 83 = .ok (.aload_n 0, 1) := by decide +kernel
theorem dX12_readsFinger_84 : decode cX12_readsFinger 84 = .ok (.getfield 41, 3) := by decide +kernel
theorem dX12_readsFinger_87 : decode cX12_readsFinger 87 = .ok (.iload_n 2, 1) := by decide +kernel
theorem dX12_readsFinger_88 : decode cX12_readsFinger 88 = .ok (.iconst 3, 1) := by decide +kernel
theorem dX12_readsFinger_89 : decode cX12_readsFinger 89 = .ok (.iadd, 1) := by decide +kernel
theorem dX12_readsFinger_90 : decode cX12_readsFinger 90 = .ok (.iconst 0, 1) := by decide +kernel
theorem dX12_readsFinger_91 : decode cX12_readsFinger 91 = .ok (.iastore, 1) := by decide +kernel
theorem dX12_readsFinger_92 : decode cX12_readsFinger 92 = .ok (.iconst 0, 1) := by decide +kernel
theorem dX12_readsFinger_93 : decode cX12_readsFinger 93 = .ok (.istore_n 3, 1) := by decide +kernel
theorem dX12_readsFinger_94 : decode cX12_readsFinger 94 = .ok (.iload_n 3, 1) := by decide +kernel
theorem dX12_readsFinger_95 : decode cX12_readsFinger 95 = .ok (.iconst 3, 1) := by decide +kernel
theorem dX12_readsFinger_96 : decode cX12_readsFinger 96 = .ok (.if_icmp .ge 123, 3) := by decide +kernel
theorem dX12_readsFinger_99 : decode cX12_readsFinger 99 = .ok (.aload_n 0, 1) := by decide +kernel
theorem dX12_readsFinger_100 : decode cX12_readsFinger 100 = .ok (.iload_n 1, 1) := by decide +kernel
theorem dX12_readsFinger_101 : decode cX12_readsFinger 101 = .ok (.invokevirtual 171, 3) := by decide +kernel
theorem dX12_readsFinger_104 : decode cX12_readsFinger 104 = .ok (.ifCond .eq 115, 3) := by decide +kernel
theorem dX12_readsFinger_107 : decode cX12_readsFinger 107 = .ok (.aload_n 0, 1) := by decide +kernel
theorem dX12_readsFinger_108 : decode cX12_readsFinger 108 = .ok (.getfield 181, 3) := by decide +kernel
theorem dX12_readsFinger_111 : decode cX12_readsFinger 111 = .ok (.bipush 6, 2) := by decide +kernel
theorem dX12_readsFinger_113 : decode cX12_readsFinger 113 = .ok (.if_icmp .eq 12, 3) := by decide +kernel
theorem dX12_readsFinger_116 : decode cX12_readsFinger 116 = .ok (.aload_n 0, 1) := by decide +kernel
theorem dX12_readsFinger_117 : decode cX12_readsFinger 117 = .ok (.iload_n 1, 1) := by decide +kernel
theorem dX12_readsFinger_118 : decode cX12_readsFinger 118 = .ok (.iconst 2, 1) := by decide +kernel
theorem dX12_readsFinger_119 : decode cX12_readsFinger 119 = .ok (.invokevirtual 177, 3) := by decide +kernel
theorem dX12_readsFinger_122 : decode cX12_readsFinger 122 = .ok (.ifCond .ne 5, 3) := by decide +kernel
theorem dX12_readsFinger_125 : decode cX12_readsFinger 125 = .ok (.iconst 0, 1) := by decide +kernel
theorem dX12_readsFinger_126 : decode cX12_readsFinger 126 = .ok (.ireturn, 1) := by decide +kernel
theorem dX12_readsFinger_127 : decode cX12_readsFinger 127 = .ok (.aload_n 0, 1) := by decide +kernel
theorem dX12_readsFinger_128 : decode cX12_readsFinger 128 = .ok (.getfield 165, 3) := by decide +kernel
theorem dX12_readsFinger_131 : decode cX12_readsFinger 131 = .ok (.istore 4, 2) := by decide +kernel
theorem dX12_readsFinger_133 : decode cX12_readsFinger 133 = .ok (.aload_n 0, 1) := by decide +kernel
theorem dX12_readsFinger_134 : decode cX12_readsFinger 134 = .ok (.iload_n 1, 1) := by decide +kernel
theorem dX12_readsFinger_135 : decode cX12_readsFinger 135 = .ok (.iconst 2, 1) := by decide +kernel
theorem dX12_readsFinger_136 : decode cX12_readsFinger 136 = .ok (.invokevirtual 177, 3) := by decide +kernel
theorem dX12_readsFinger_139 : decode cX12_readsFinger 139 = .ok (.ifCond .ne 5, 3) := by decide +kernel
theorem dX12_readsFinger_142 : decode cX12_readsFinger 142 = .ok (.iconst 0, 1) := by decide +kernel
theorem dX12_readsFinger_143 : decode cX12_readsFinger 143 = .ok (.ireturn, 1) := by decide +kernel
theorem dX12_readsFinger_144 : decode cX12_readsFinger 144 = .ok (.aload_n 0, 1) := by decide +kernel
theorem dX12_readsFinger_145 : decode cX12_readsFinger 145 = .ok (.getfield 44, 3) := by decide +kernel
theorem dX12_readsFinger_148 : decode cX12_readsFinger 148 = .ok (.iconst 3, 1) := by decide +kernel
theorem dX12_readsFinger_149 : decode cX12_readsFinger 149 = .ok (.aload_n 0, 1) := by decide +kernel
theorem dX12_readsFinger_150 : decode cX12_readsFinger 150 = .ok (.getfield 181, 3) := by decide +kernel
theorem dX12_readsFinger_153 : decode cX12_readsFinger 153 = .ok (.imul, 1) := by decide +kernel
theorem dX12_readsFinger_154 : decode cX12_readsFinger 154 = .ok (.aload_n 0, 1) := by decide +kernel
theorem dX12_readsFinger_155 : decode cX12_readsFinger 155 = .ok (.getfield 174, 3) := by decide +kernel
theorem dX12_readsFinger_158 : decode cX12_readsFinger 158 = .ok (.iastore, 1) := by decide +kernel
theorem dX12_readsFinger_159 : decode cX12_readsFinger 159 = .ok (.aload_n 0, 1) := by decide +kernel
theorem dX12_readsFinger_160 : decode cX12_readsFinger 160 = .ok (.getfield 44, 3) := by decide +kernel
theorem dX12_readsFinger_163 : decode cX12_readsFinger 163 = .ok (.iconst 3, 1) := by decide +kernel
theorem dX12_readsFinger_164 : decode cX12_readsFinger 164 = .ok (.aload_n 0, 1) := by decide +kernel
theorem dX12_readsFinger_165 : decode cX12_readsFinger 165 = .ok (.getfield 181, 3) := by decide +kernel
theorem dX12_readsFinger_168 : decode cX12_readsFinger 168 = .ok (.imul, 1) := by decide +kernel
theorem dX12_readsFinger_169 : decode cX12_readsFinger 169 = .ok (.iconst 1, 1) := by decide +kernel
theorem dX12_readsFinger_170 : decode cX12_readsFinger 170 = .ok (.iadd, 1) := by decide +kernel
theorem dX12_readsFinger_171 : decode cX12_readsFinger 171 = .ok (.iload 4, 2) := by decide +kernel
theorem dX12_readsFinger_173 : decode cX12_readsFinger 173 = .ok (.iastore, 1) := by decide +kernel
theorem dX12_readsFinger_174 : decode cX12_readsFinger 174 = .ok (.aload_n 0, 1) := by decide +kernel
theorem dX12_readsFinger_175 : decode cX12_readsFinger 175 = .ok (.getfield 44, 3) := by decide +kernel
theorem dX12_readsFinger_178 : decode cX12_readsFinger 178 = .ok (.iconst 3, 1) := by decide +kernel
theorem dX12_readsFinger_179 : decode cX12_readsFinger 179 = .ok (.aload_n 0, 1) := by decide +kernel
theorem dX12_readsFinger_180 : decode cX12_readsFinger 180 = .ok (.getfield 181, 3) := by decide +kernel
theorem dX12_readsFinger_183 : decode cX12_readsFinger 183 = .ok (.imul, 1) := by decide +kernel
theorem dX12_readsFinger_184 : decode cX12_readsFinger 184 = .ok (.iconst 2, 1) := by decide +kernel
theorem dX12_readsFinger_185 : decode cX12_readsFinger 185 = .ok (.iadd, 1) := by decide +kernel
theorem dX12_readsFinger_186 : decode cX12_readsFinger 186 = .ok (.aload_n 0, 1) := by decide +kernel
theorem dX12_readsFinger_187 : decode cX12_readsFinger 187 = .ok (.getfield 165, 3) := by decide +kernel
theorem dX12_readsFinger_190 : decode cX12_readsFinger 190 = .ok (.iastore, 1) := by decide +kernel
theorem dX12_readsFinger_191 : decode cX12_readsFinger 191 = .ok (.aload_n 0, 1) := by decide +kernel
theorem dX12_readsFinger_192 : decode cX12_readsFinger 192 = .ok (.dup, 1) := by decide +kernel
theorem dX12_readsFinger_193 : decode cX12_readsFinger 193 = .ok (.getfield 181, 3) := by decide +kernel
theorem dX12_readsFinger_196 : decode cX12_readsFinger 196 = .ok (.iconst 1, 1) := by decide +kernel
theorem dX12_readsFinger_197 : decode cX12_readsFinger 197 = .ok (.iadd, 1) := by decide +kernel
theorem dX12_readsFinger_198 : decode cX12_readsFinger 198 = .ok (.putfield 181, 3) := by decide +kernel
theorem dX12_readsFinger_201 : decode cX12_readsFinger 201 = .ok (.aload_n 0, 1) := by decide +kernel
theorem dX12_readsFinger_202 : decode cX12_readsFinger 202 = .ok (.getfield 41, 3) := by decide +kernel
theorem dX12_readsFinger_205 : decode cX12_readsFinger 205 = .ok (.iload_n 2, 1) := by decide +kernel
theorem dX12_readsFinger_206 : decode cX12_readsFinger 206 = .ok (.iconst 3, 1) := by decide +kernel
theorem dX12_readsFinger_207 : decode cX12_readsFinger 207 = .ok (.iadd, 1) := by decide +kernel
theorem dX12_readsFinger_208 : decode cX12_readsFinger 208 = .ok (.dup2, 1) := by decide +kernel
theorem dX12_readsFinger_209 : decode cX12_readsFinger 209 = .ok (.iaload, 1) := by decide +kernel
theorem dX12_readsFinger_210 : decode cX12_readsFinger 210 = .ok (.iconst 1, 1) := by decide +kernel
theorem dX12_readsFinger_211 : decode cX12_readsFinger 211 = .ok (.iadd, 1) := by decide +kernel
theorem dX12_readsFinger_212 : decode cX12_readsFinger 212 = .ok (.iastore, 1) := by decide +kernel
theorem dX12_readsFinger_213 : decode cX12_readsFinger 213 = .ok (.iinc 3 1, 3) := by decide +kernel
theorem dX12_readsFinger_216 : decode cX12_readsFinger 216 = .ok (.goto (-122), 3) := by decide +kernel
theorem dX12_readsFinger_219 : decode cX12_readsFinger 219 = .ok (.aload_n 0, 1) := by decide +kernel
theorem dX12_readsFinger_220 : decode cX12_readsFinger 220 = .ok (.dup, 1) := by decide +kernel
theorem dX12_readsFinger_221 : decode cX12_readsFinger 221 = .ok (.getfield 174, 3) := by decide +kernel
theorem dX12_readsFinger_224 : decode cX12_readsFinger 224 = .ok (.iconst 1, 1) := by decide +kernel
theorem dX12_readsFinger_225 : decode cX12_readsFinger 225 = .ok (.iadd, 1) := by decide +kernel
theorem dX12_readsFinger_226 : decode cX12_readsFinger 226 = .ok (.putfield 174, 3) := by decide +kernel
theorem dX12_readsFinger_229 : decode cX12_readsFinger 229 = .ok (.iconst 1, 1) := by decide +kernel
theorem dX12_readsFinger_230 : decode cX12_readsFinger 230 = .ok (.ireturn, 1) := by decide +kernel
theorem dX12_faultOf_0 : decode cX12_faultOf 0 = .ok (.aload_n 0, 1) := by decide +kernel
theorem dX12_faultOf_1 : decode cX12_faultOf 1 = .ok (.iconst 0, 1) := by decide +kernel
theorem dX12_faultOf_2 : decode cX12_faultOf 2 = .ok (.putfield 159, 3) := by decide +kernel
theorem dX12_faultOf_5 : decode cX12_faultOf 5 = .ok (.aload_n 0, 1) := by decide +kernel
theorem dX12_faultOf_6 : decode cX12_faultOf 6 = .ok (.iconst 0, 1) := by decide +kernel
theorem dX12_faultOf_7 : decode cX12_faultOf 7 = .ok (.putfield 168, 3) := by decide +kernel
theorem dX12_faultOf_10 : decode cX12_faultOf 10 = .ok (.aload_n 0, 1) := by decide +kernel
theorem dX12_faultOf_11 : decode cX12_faultOf 11 = .ok (.iconst 0, 1) := by decide +kernel
theorem dX12_faultOf_12 : decode cX12_faultOf 12 = .ok (.putfield 174, 3) := by decide +kernel
theorem dX12_faultOf_15 : decode cX12_faultOf 15 = .ok (.aload_n 0, 1) := by decide +kernel
theorem dX12_faultOf_16 : decode cX12_faultOf 16 = .ok (.iconst 0, 1) := by decide +kernel
theorem dX12_faultOf_17 : decode cX12_faultOf 17 = .ok (.putfield 181, 3) := by decide +kernel
theorem dX12_faultOf_20 : decode cX12_faultOf 20 = .ok (.aload_n 0, 1) := by decide +kernel
theorem dX12_faultOf_21 : decode cX12_faultOf 21 = .ok (.getfield 159, 3) := by decide +kernel
theorem dX12_faultOf_24 : decode cX12_faultOf 24 = .ok (.aload_n 0, 1) := by decide +kernel
theorem dX12_faultOf_25 : decode cX12_faultOf 25 = .ok (.getfield 22, 3) := by decide +kernel
theorem dX12_faultOf_28 : decode cX12_faultOf 28 = .ok (.iload_n 1, 1) := by decide +kernel
theorem dX12_faultOf_29 : decode cX12_faultOf 29 = .ok (.iaload, 1) := by decide +kernel
theorem dX12_faultOf_30 : decode cX12_faultOf 30 = .ok (.if_icmp .ge 71, 3) := by decide +kernel
theorem dX12_faultOf_33 : decode cX12_faultOf 33 = .ok (.aload_n 0, 1) := by decide +kernel
theorem dX12_faultOf_34 : decode cX12_faultOf 34 = .ok (.iload_n 1, 1) := by decide +kernel
theorem dX12_faultOf_35 : decode cX12_faultOf 35 = .ok (.aload_n 0, 1) := by decide +kernel
theorem dX12_faultOf_36 : decode cX12_faultOf 36 = .ok (.getfield 159, 3) := by decide +kernel
theorem dX12_faultOf_39 : decode cX12_faultOf 39 = .ok (.invokevirtual 162, 3) := by decide +kernel
theorem dX12_faultOf_42 : decode cX12_faultOf 42 = .ok (.istore_n 2, 1) := by decide +kernel
theorem dX12_faultOf_43 : decode cX12_faultOf 43 = .ok (.iload_n 2, 1) := by decide +kernel
theorem dX12_faultOf_44 : decode cX12_faultOf 44 = .ok (.bipush 32, 2) := by decide +kernel
theorem dX12_faultOf_46 : decode cX12_faultOf 46 = .ok (.if_icmp .ne 16, 3) := by decide +kernel
theorem dX12_faultOf_49 : decode cX12_faultOf 49 = .ok (.aload_n 0, 1) := by decide +kernel
theorem dX12_faultOf_50 : decode cX12_faultOf 50 = .ok (.dup, 1) := by decide +kernel
theorem dX12_faultOf_51 : decode cX12_faultOf 51 = .ok (.getfield 159, 3) := by decide +kernel
theorem dX12_faultOf_54 : decode cX12_faultOf 54 = .ok (.iconst 1, 1) := by decide +kernel
theorem dX12_faultOf_55 : decode cX12_faultOf 55 = .ok (.iadd, 1) := by decide +kernel
theorem dX12_faultOf_56 : decode cX12_faultOf 56 = .ok (.putfield 159, 3) := by decide +kernel
theorem dX12_faultOf_59 : decode cX12_faultOf 59 = .ok (.goto 39, 3) := by decide +kernel
theorem dX12_faultOf_62 : decode cX12_faultOf 62 = .ok (.iload_n 2, 1) := by decide +kernel
theorem dX12_faultOf_63 : decode cX12_faultOf 63 = .ok (.bipush 104, 2) := by decide +kernel
theorem dX12_faultOf_65 : decode cX12_faultOf 65 = .ok (.if_icmp .ne 14, 3) := by decide +kernel
theorem dX12_faultOf_68 : decode cX12_faultOf 68 = .ok (.aload_n 0, 1) := by decide +kernel
theorem dX12_faultOf_69 : decode cX12_faultOf 69 = .ok (.iload_n 1, 1) := by decide +kernel
theorem dX12_faultOf_70 : decode cX12_faultOf 70 = .ok (.invokevirtual 184, 3) := by decide +kernel
theorem dX12_faultOf_73 : decode cX12_faultOf 73 = .ok (.ifCond .eq 20, 3) := by decide +kernel
theorem dX12_faultOf_76 : decode cX12_faultOf 76 = .ok (.goto 22, 3) := by decide +kernel
theorem dX12_faultOf_79 : decode cX12_faultOf 79 = .ok (.iload_n 2, 1) := by decide +kernel
theorem dX12_faultOf_80 : decode cX12_faultOf 80 = .ok (.bipush 102, 2) := by decide +kernel
theorem dX12_faultOf_82 : decode cX12_faultOf 82 = .ok (.if_icmp .ne 11, 3) := by decide +kernel
theorem dX12_faultOf_85 : decode cX12_faultOf 85 = .ok (.aload_n 0, 1) := by decide +kernel
theorem dX12_faultOf_86 : decode cX12_faultOf 86 = .ok (.iload_n 1, 1) := by decide +kernel
theorem dX12_faultOf_87 : decode cX12_faultOf 87 = .ok (.invokevirtual 187, 3) := by decide +kernel
theorem dX12_faultOf_90 : decode cX12_faultOf 90 = .ok (.ifCond .ne 8, 3) := by decide +kernel
theorem dX12_faultOf_93 : decode cX12_faultOf 93 = .ok (.aload_n 0, 1) := by decide +kernel
theorem dX12_faultOf_94 : decode cX12_faultOf 94 = .ok (.getfield 159, 3) := by decide +kernel
theorem dX12_faultOf_97 : decode cX12_faultOf 97 = .ok (.ireturn, 1) := by decide +kernel
theorem dX12_faultOf_98 : decode cX12_faultOf 98 = .ok (.goto (-78), 3) := by decide +kernel
theorem dX12_faultOf_101 : decode cX12_faultOf 101 = .ok (.bipush (-9), 2) := by decide +kernel
theorem dX12_faultOf_103 : decode cX12_faultOf 103 = .ok (.ireturn, 1) := by decide +kernel
theorem dX12_fault_0 : decode cX12_fault 0 = .ok (.iload_n 1, 1) := by decide +kernel
theorem dX12_fault_1 : decode cX12_fault 1 = .ok (.invokestatic 156, 3) := by decide +kernel
theorem dX12_fault_4 : decode cX12_fault 4 = .ok (.ifCond .ne 5, 3) := by decide +kernel
theorem dX12_fault_7 : decode cX12_fault 7 = .ok (.iconst (-1), 1) := by decide +kernel
theorem dX12_fault_8 : decode cX12_fault 8 = .ok (.ireturn, 1) := by decide +kernel
theorem dX12_fault_9 : decode cX12_fault 9 = .ok (.aload_n 0, 1) := by decide +kernel
theorem dX12_fault_10 : decode cX12_fault 10 = .ok (.getfield 22, 3) := by decide +kernel
theorem dX12_fault_13 : decode cX12_fault 13 = .ok (.iload_n 1, 1) := by decide +kernel
theorem dX12_fault_14 : decode cX12_fault 14 = .ok (.iaload, 1) := by decide +kernel
theorem dX12_fault_15 : decode cX12_fault 15 = .ok (.ifCond .ge 11, 3) := by decide +kernel
theorem dX12_fault_18 : decode cX12_fault 18 = .ok (.aload_n 0, 1) := by decide +kernel
theorem dX12_fault_19 : decode cX12_fault 19 = .ok (.iconst 1, 1) := by decide +kernel
theorem dX12_fault_20 : decode cX12_fault 20 = .ok (.invokevirtual 145, 3) := by decide +kernel
theorem dX12_fault_23 : decode cX12_fault 23 = .ok (.goto 8, 3) := by decide +kernel
theorem dX12_fault_26 : decode cX12_fault 26 = .ok (.aload_n 0, 1) := by decide +kernel
theorem dX12_fault_27 : decode cX12_fault 27 = .ok (.iload_n 1, 1) := by decide +kernel
theorem dX12_fault_28 : decode cX12_fault 28 = .ok (.invokevirtual 190, 3) := by decide +kernel
theorem dX12_fault_31 : decode cX12_fault 31 = .ok (.ireturn, 1) := by decide +kernel
theorem dX12_hands_0 : decode cX12_hands 0 = .ok (.iload_n 1, 1) := by decide +kernel
theorem dX12_hands_1 : decode cX12_hands 1 = .ok (.invokestatic 156, 3) := by decide +kernel
theorem dX12_hands_4 : decode cX12_hands 4 = .ok (.ifCond .ne 5, 3) := by decide +kernel
theorem dX12_hands_7 : decode cX12_hands 7 = .ok (.iconst (-1), 1) := by decide +kernel
theorem dX12_hands_8 : decode cX12_hands 8 = .ok (.ireturn, 1) := by decide +kernel
theorem dX12_hands_9 : decode cX12_hands 9 = .ok (.aload_n 0, 1) := by decide +kernel
theorem dX12_hands_10 : decode cX12_hands 10 = .ok (.getfield 22, 3) := by decide +kernel
theorem dX12_hands_13 : decode cX12_hands 13 = .ok (.iload_n 1, 1) := by decide +kernel
theorem dX12_hands_14 : decode cX12_hands 14 = .ok (.iaload, 1) := by decide +kernel
theorem dX12_hands_15 : decode cX12_hands 15 = .ok (.ifCond .ge 9, 3) := by decide +kernel
theorem dX12_hands_18 : decode cX12_hands 18 = .ok (.aload_n 0, 1) := by decide +kernel
theorem dX12_hands_19 : decode cX12_hands 19 = .ok (.iconst 1, 1) := by decide +kernel
theorem dX12_hands_20 : decode cX12_hands 20 = .ok (.invokevirtual 145, 3) := by decide +kernel
theorem dX12_hands_23 : decode cX12_hands 23 = .ok (.ireturn, 1) := by decide +kernel
theorem dX12_hands_24 : decode cX12_hands 24 = .ok (.aload_n 0, 1) := by decide +kernel
theorem dX12_hands_25 : decode cX12_hands 25 = .ok (.iload_n 1, 1) := by decide +kernel
theorem dX12_hands_26 : decode cX12_hands 26 = .ok (.invokevirtual 190, 3) := by decide +kernel
theorem dX12_hands_29 : decode cX12_hands 29 = .ok (.bipush (-9), 2) := by decide +kernel
theorem dX12_hands_31 : decode cX12_hands 31 = .ok (.if_icmp .eq 6, 3) := by decide +kernel
theorem dX12_hands_34 : decode cX12_hands 34 = .ok (.bipush (-4), 2) := by decide +kernel
theorem dX12_hands_36 : decode cX12_hands 36 = .ok (.ireturn, 1) := by decide +kernel
theorem dX12_hands_37 : decode cX12_hands 37 = .ok (.aload_n 0, 1) := by decide +kernel
theorem dX12_hands_38 : decode cX12_hands 38 = .ok (.aload_n 0, 1) := by decide +kernel
theorem dX12_hands_39 : decode cX12_hands 39 = .ok (.getfield 168, 3) := by decide +kernel
theorem dX12_hands_42 : decode cX12_hands 42 = .ok (.putfield 193, 3) := by decide +kernel
theorem dX12_hands_45 : decode cX12_hands 45 = .ok (.aload_n 0, 1) := by decide +kernel
theorem dX12_hands_46 : decode cX12_hands 46 = .ok (.aload_n 0, 1) := by decide +kernel
theorem dX12_hands_47 : decode cX12_hands 47 = .ok (.getfield 174, 3) := by decide +kernel
theorem dX12_hands_50 : decode cX12_hands 50 = .ok (.putfield 196, 3) := by decide +kernel
theorem dX12_hands_53 : decode cX12_hands 53 = .ok (.aload_n 0, 1) := by decide +kernel
theorem dX12_hands_54 : decode cX12_hands 54 = .ok (.aload_n 0, 1) := by decide +kernel
theorem dX12_hands_55 : decode cX12_hands 55 = .ok (.getfield 181, 3) := by decide +kernel
theorem dX12_hands_58 : decode cX12_hands 58 = .ok (.putfield 199, 3) := by decide +kernel
theorem dX12_hands_61 : decode cX12_hands 61 = .ok (.iconst 0, 1) := by decide +kernel
theorem dX12_hands_62 : decode cX12_hands 62 = .ok (.istore_n 2, 1) := by decide +kernel
theorem dX12_hands_63 : decode cX12_hands 63 = .ok (.iload_n 2, 1) := by decide +kernel
theorem dX12_hands_64 : decode cX12_hands 64 = .ok (.bipush 24, 2) := by decide +kernel
theorem dX12_hands_66 : decode cX12_hands 66 = .ok (.if_icmp .ge 56, 3) := by decide +kernel
theorem dX12_hands_69 : decode cX12_hands 69 = .ok (.aload_n 0, 1) := by decide +kernel
theorem dX12_hands_70 : decode cX12_hands 70 = .ok (.getfield 32, 3) := by decide +kernel
theorem dX12_hands_73 : decode cX12_hands 73 = .ok (.iload_n 2, 1) := by decide +kernel
theorem dX12_hands_74 : decode cX12_hands 74 = .ok (.aload_n 0, 1) := by decide +kernel
theorem dX12_hands_75 : decode cX12_hands 75 = .ok (.getfield 41, 3) := by decide +kernel
theorem dX12_hands_78 : decode cX12_hands 78 = .ok (.iload_n 2, 1) := by decide +kernel
theorem dX12_hands_79 : decode cX12_hands 79 = .ok (.iaload, 1) := by decide +kernel
theorem dX12_hands_80 : decode cX12_hands 80 = .ok (.iastore, 1) := by decide +kernel
theorem dX12_hands_81 : decode cX12_hands 81 = .ok (.iload_n 2, 1) := by decide +kernel
theorem dX12_hands_82 : decode cX12_hands 82 = .ok (.bipush 18, 2) := by decide +kernel
theorem dX12_hands_84 : decode cX12_hands 84 = .ok (.if_icmp .ge 15, 3) := by decide +kernel
theorem dX12_hands_87 : decode cX12_hands 87 = .ok (.aload_n 0, 1) := by decide +kernel
theorem dX12_hands_88 : decode cX12_hands 88 = .ok (.getfield 35, 3) := by decide +kernel
theorem dX12_hands_91 : decode cX12_hands 91 = .ok (.iload_n 2, 1) := by decide +kernel
theorem dX12_hands_92 : decode cX12_hands 92 = .ok (.aload_n 0, 1) := by decide +kernel
theorem dX12_hands_93 : decode cX12_hands 93 = .ok (.getfield 44, 3) := by decide +kernel
theorem dX12_hands_96 : decode cX12_hands 96 = .ok (.iload_n 2, 1) := by decide +kernel
theorem dX12_hands_97 : decode cX12_hands 97 = .ok (.iaload, 1) := by decide +kernel
theorem dX12_hands_98 : decode cX12_hands 98 = .ok (.iastore, 1) := by decide +kernel
theorem dX12_hands_99 : decode cX12_hands 99 = .ok (.iload_n 2, 1) := by decide +kernel
theorem dX12_hands_100 : decode cX12_hands 100 = .ok (.iconst 2, 1) := by decide +kernel
theorem dX12_hands_101 : decode cX12_hands 101 = .ok (.if_icmp .ge 15, 3) := by decide +kernel
theorem dX12_hands_104 : decode cX12_hands 104 = .ok (.aload_n 0, 1) := by decide +kernel
theorem dX12_hands_105 : decode cX12_hands 105 = .ok (.getfield 29, 3) := by decide +kernel
theorem dX12_hands_108 : decode cX12_hands 108 = .ok (.iload_n 2, 1) := by decide +kernel
theorem dX12_hands_109 : decode cX12_hands 109 = .ok (.aload_n 0, 1) := by decide +kernel
theorem dX12_hands_110 : decode cX12_hands 110 = .ok (.getfield 38, 3) := by decide +kernel
theorem dX12_hands_113 : decode cX12_hands 113 = .ok (.iload_n 2, 1) := by decide +kernel
theorem dX12_hands_114 : decode cX12_hands 114 = .ok (.iaload, 1) := by decide +kernel
theorem dX12_hands_115 : decode cX12_hands 115 = .ok (.iastore, 1) := by decide +kernel
theorem dX12_hands_116 : decode cX12_hands 116 = .ok (.iinc 2 1, 3) := by decide +kernel
theorem dX12_hands_119 : decode cX12_hands 119 = .ok (.goto (-56), 3) := by decide +kernel
theorem dX12_hands_122 : decode cX12_hands 122 = .ok (.aload_n 0, 1) := by decide +kernel
theorem dX12_hands_123 : decode cX12_hands 123 = .ok (.iconst 0, 1) := by decide +kernel
theorem dX12_hands_124 : decode cX12_hands 124 = .ok (.putfield 202, 3) := by decide +kernel
theorem dX12_hands_127 : decode cX12_hands 127 = .ok (.aload_n 0, 1) := by decide +kernel
theorem dX12_hands_128 : decode cX12_hands 128 = .ok (.iconst 0, 1) := by decide +kernel
theorem dX12_hands_129 : decode cX12_hands 129 = .ok (.putfield 205, 3) := by decide +kernel
theorem dX12_hands_132 : decode cX12_hands 132 = .ok (.aload_n 0, 1) := by decide +kernel
theorem dX12_hands_133 : decode cX12_hands 133 = .ok (.getfield 199, 3) := by decide +kernel
theorem dX12_hands_136 : decode cX12_hands 136 = .ok (.ireturn, 1) := by decide +kernel
theorem dX12_finger_0 : decode cX12_finger 0 = .ok (.iload_n 1, 1) := by decide +kernel
theorem dX12_finger_1 : decode cX12_finger 1 = .ok (.iconst 0, 1) := by decide +kernel
theorem dX12_finger_2 : decode cX12_finger 2 = .ok (.aload_n 0, 1) := by decide +kernel
theorem dX12_finger_3 : decode cX12_finger 3 = .ok (.getfield 196, 3) := by decide +kernel
theorem dX12_finger_6 : decode cX12_finger 6 = .ok (.iconst 1, 1) := by decide +kernel
theorem dX12_finger_7 : decode cX12_finger 7 = .ok (.isub, 1) := by decide +kernel
theorem dX12_finger_8 : decode cX12_finger 8 = .ok (.invokestatic 131, 3) := by decide +kernel
theorem dX12_finger_11 : decode cX12_finger 11 = .ok (.ifCond .eq 30, 3) := by decide +kernel
theorem dX12_finger_14 : decode cX12_finger 14 = .ok (.iload_n 2, 1) := by decide +kernel
theorem dX12_finger_15 : decode cX12_finger 15 = .ok (.iconst 0, 1) := by decide +kernel
theorem dX12_finger_16 : decode cX12_finger 16 = .ok (.iconst 3, 1) := by decide +kernel
theorem dX12_finger_17 : decode cX12_finger 17 = .ok (.invokestatic 131, 3) := by decide +kernel
theorem dX12_finger_20 : decode cX12_finger 20 = .ok (.ifCond .eq 21, 3) := by decide +kernel
theorem dX12_finger_23 : decode cX12_finger 23 = .ok (.aload_n 0, 1) := by decide +kernel
theorem dX12_finger_24 : decode cX12_finger 24 = .ok (.aload_n 0, 1) := by decide +kernel
theorem dX12_finger_25 : decode cX12_finger 25 = .ok (.getfield 32, 3) := by decide +kernel
theorem dX12_finger_28 : decode cX12_finger 28 = .ok (.iconst 4, 1) := by decide +kernel
theorem dX12_finger_29 : decode cX12_finger 29 = .ok (.iload_n 1, 1) := by decide +kernel
theorem dX12_finger_30 : decode cX12_finger 30 = .ok (.imul, 1) := by decide +kernel
theorem dX12_finger_31 : decode cX12_finger 31 = .ok (.iload_n 2, 1) := by decide +kernel
theorem dX12_finger_32 : decode cX12_finger 32 = .ok (.iadd, 1) := by decide +kernel
theorem dX12_finger_33 : decode cX12_finger 33 = .ok (.iaload, 1) := by decide +kernel
theorem dX12_finger_34 : decode cX12_finger 34 = .ok (.iconst 1, 1) := by decide +kernel
theorem dX12_finger_35 : decode cX12_finger 35 = .ok (.invokevirtual 153, 3) := by decide +kernel
theorem dX12_finger_38 : decode cX12_finger 38 = .ok (.goto 4, 3) := by decide +kernel
theorem dX12_finger_41 : decode cX12_finger 41 = .ok (.iconst (-1), 1) := by decide +kernel
theorem dX12_finger_42 : decode cX12_finger 42 = .ok (.ireturn, 1) := by decide +kernel
theorem dX12_isJoint_0 : decode cX12_isJoint 0 = .ok (.iload_n 1, 1) := by decide +kernel
theorem dX12_isJoint_1 : decode cX12_isJoint 1 = .ok (.iconst 0, 1) := by decide +kernel
theorem dX12_isJoint_2 : decode cX12_isJoint 2 = .ok (.aload_n 0, 1) := by decide +kernel
theorem dX12_isJoint_3 : decode cX12_isJoint 3 = .ok (.getfield 199, 3) := by decide +kernel
theorem dX12_isJoint_6 : decode cX12_isJoint 6 = .ok (.iconst 1, 1) := by decide +kernel
theorem dX12_isJoint_7 : decode cX12_isJoint 7 = .ok (.isub, 1) := by decide +kernel
theorem dX12_isJoint_8 : decode cX12_isJoint 8 = .ok (.invokestatic 131, 3) := by decide +kernel
theorem dX12_isJoint_11 : decode cX12_isJoint 11 = .ok (.ireturn, 1) := by decide +kernel
theorem dX12_joint_0 : decode cX12_joint 0 = .ok (.aload_n 0, 1) := by decide +kernel
theorem dX12_joint_1 : decode cX12_joint 1 = .ok (.iload_n 1, 1) := by decide +kernel
theorem dX12_joint_2 : decode cX12_joint 2 = .ok (.invokevirtual 208, 3) := by decide +kernel
theorem dX12_joint_5 : decode cX12_joint 5 = .ok (.ifCond .eq 30, 3) := by decide +kernel
theorem dX12_joint_8 : decode cX12_joint 8 = .ok (.iload_n 2, 1) := by decide +kernel
theorem dX12_joint_9 : decode cX12_joint 9 = .ok (.iconst 0, 1) := by decide +kernel
theorem dX12_joint_10 : decode cX12_joint 10 = .ok (.iconst 2, 1) := by decide +kernel
theorem dX12_joint_11 : decode cX12_joint 11 = .ok (.invokestatic 131, 3) := by decide +kernel
theorem dX12_joint_14 : decode cX12_joint 14 = .ok (.ifCond .eq 21, 3) := by decide +kernel
theorem dX12_joint_17 : decode cX12_joint 17 = .ok (.aload_n 0, 1) := by decide +kernel
theorem dX12_joint_18 : decode cX12_joint 18 = .ok (.aload_n 0, 1) := by decide +kernel
theorem dX12_joint_19 : decode cX12_joint 19 = .ok (.getfield 35, 3) := by decide +kernel
theorem dX12_joint_22 : decode cX12_joint 22 = .ok (.iconst 3, 1) := by decide +kernel
theorem dX12_joint_23 : decode cX12_joint 23 = .ok (.iload_n 1, 1) := by decide +kernel
theorem dX12_joint_24 : decode cX12_joint 24 = .ok (.imul, 1) := by decide +kernel
theorem dX12_joint_25 : decode cX12_joint 25 = .ok (.iload_n 2, 1) := by decide +kernel
theorem dX12_joint_26 : decode cX12_joint 26 = .ok (.iadd, 1) := by decide +kernel
theorem dX12_joint_27 : decode cX12_joint 27 = .ok (.iaload, 1) := by decide +kernel
theorem dX12_joint_28 : decode cX12_joint 28 = .ok (.iconst 1, 1) := by decide +kernel
theorem dX12_joint_29 : decode cX12_joint 29 = .ok (.invokevirtual 153, 3) := by decide +kernel
theorem dX12_joint_32 : decode cX12_joint 32 = .ok (.goto 4, 3) := by decide +kernel
theorem dX12_joint_35 : decode cX12_joint 35 = .ok (.iconst (-1), 1) := by decide +kernel
theorem dX12_joint_36 : decode cX12_joint 36 = .ok (.ireturn, 1) := by decide +kernel
theorem dX12_least_0 : decode cX12_least 0 = .ok (.aload_n 0, 1) := by decide +kernel
theorem dX12_least_1 : decode cX12_least 1 = .ok (.getfield 35, 3) := by decide +kernel
theorem dX12_least_4 : decode cX12_least 4 = .ok (.iconst 3, 1) := by decide +kernel
theorem dX12_least_5 : decode cX12_least 5 = .ok (.iload_n 1, 1) := by decide +kernel
theorem dX12_least_6 : decode cX12_least 6 = .ok (.imul, 1) := by decide +kernel
theorem dX12_least_7 : decode cX12_least 7 = .ok (.iconst 1, 1) := by decide +kernel
theorem dX12_least_8 : decode cX12_least 8 = .ok (.iadd, 1) := by decide +kernel
theorem dX12_least_9 : decode cX12_least 9 = .ok (.iaload, 1) := by decide +kernel
theorem dX12_least_10 : decode cX12_least 10 = .ok (.ineg, 1) := by decide +kernel
theorem dX12_least_11 : decode cX12_least 11 = .ok (.ireturn, 1) := by decide +kernel
theorem dX12_most_0 : decode cX12_most 0 = .ok (.aload_n 0, 1) := by decide +kernel
theorem dX12_most_1 : decode cX12_most 1 = .ok (.getfield 35, 3) := by decide +kernel
theorem dX12_most_4 : decode cX12_most 4 = .ok (.iconst 3, 1) := by decide +kernel
theorem dX12_most_5 : decode cX12_most 5 = .ok (.iload_n 1, 1) := by decide +kernel
theorem dX12_most_6 : decode cX12_most 6 = .ok (.imul, 1) := by decide +kernel
theorem dX12_most_7 : decode cX12_most 7 = .ok (.iconst 2, 1) := by decide +kernel
theorem dX12_most_8 : decode cX12_most 8 = .ok (.iadd, 1) := by decide +kernel
theorem dX12_most_9 : decode cX12_most 9 = .ok (.iaload, 1) := by decide +kernel
theorem dX12_most_10 : decode cX12_most 10 = .ok (.ireturn, 1) := by decide +kernel
theorem dX12_strain_0 : decode cX12_strain 0 = .ok (.iload_n 1, 1) := by decide +kernel
theorem dX12_strain_1 : decode cX12_strain 1 = .ok (.iconst 0, 1) := by decide +kernel
theorem dX12_strain_2 : decode cX12_strain 2 = .ok (.bipush 99, 2) := by decide +kernel
theorem dX12_strain_4 : decode cX12_strain 4 = .ok (.invokestatic 131, 3) := by decide +kernel
theorem dX12_strain_7 : decode cX12_strain 7 = .ok (.ifCond .ne 5, 3) := by decide +kernel
theorem dX12_strain_10 : decode cX12_strain 10 = .ok (.iconst (-1), 1) := by decide +kernel
theorem dX12_strain_11 : decode cX12_strain 11 = .ok (.ireturn, 1) := by decide +kernel
theorem dX12_strain_12 : decode cX12_strain 12 = .ok (.aload_n 0, 1) := by decide +kernel
theorem dX12_strain_13 : decode cX12_strain 13 = .ok (.getfield 121, 3) := by decide +kernel
theorem dX12_strain_16 : decode cX12_strain 16 = .ok (.istore_n 2, 1) := by decide +kernel
theorem dX12_strain_17 : decode cX12_strain 17 = .ok (.aload_n 0, 1) := by decide +kernel
theorem dX12_strain_18 : decode cX12_strain 18 = .ok (.iload_n 1, 1) := by decide +kernel
theorem dX12_strain_19 : decode cX12_strain 19 = .ok (.putfield 121, 3) := by decide +kernel
theorem dX12_strain_22 : decode cX12_strain 22 = .ok (.iload_n 2, 1) := by decide +kernel
theorem dX12_strain_23 : decode cX12_strain 23 = .ok (.ireturn, 1) := by decide +kernel
theorem dX12_lampNow_0 : decode cX12_lampNow 0 = .ok (.bipush 100, 2) := by decide +kernel
theorem dX12_lampNow_2 : decode cX12_lampNow 2 = .ok (.aload_n 0, 1) := by decide +kernel
theorem dX12_lampNow_3 : decode cX12_lampNow 3 = .ok (.getfield 125, 3) := by decide +kernel
theorem dX12_lampNow_6 : decode cX12_lampNow 6 = .ok (.imul, 1) := by decide +kernel
theorem dX12_lampNow_7 : decode cX12_lampNow 7 = .ok (.bipush 10, 2) := by decide +kernel
theorem dX12_lampNow_9 : decode cX12_lampNow 9 = .ok (.aload_n 0, 1) := by decide +kernel
theorem dX12_lampNow_10 : decode cX12_lampNow 10 = .ok (.getfield 211, 3) := by decide +kernel
theorem dX12_lampNow_13 : decode cX12_lampNow 13 = .ok (.iconst 3, 1) := by decide +kernel
theorem dX12_lampNow_14 : decode cX12_lampNow 14 = .ok (.iadd, 1) := by decide +kernel
theorem dX12_lampNow_15 : decode cX12_lampNow 15 = .ok (.imul, 1) := by decide +kernel
theorem dX12_lampNow_16 : decode cX12_lampNow 16 = .ok (.iadd, 1) := by decide +kernel
theorem dX12_lampNow_17 : decode cX12_lampNow 17 = .ok (.aload_n 0, 1) := by decide +kernel
theorem dX12_lampNow_18 : decode cX12_lampNow 18 = .ok (.getfield 214, 3) := by decide +kernel
theorem dX12_lampNow_21 : decode cX12_lampNow 21 = .ok (.iadd, 1) := by decide +kernel
theorem dX12_lampNow_22 : decode cX12_lampNow 22 = .ok (.iconst 3, 1) := by decide +kernel
theorem dX12_lampNow_23 : decode cX12_lampNow 23 = .ok (.iadd, 1) := by decide +kernel
theorem dX12_lampNow_24 : decode cX12_lampNow 24 = .ok (.ireturn, 1) := by decide +kernel
theorem dX12_lamp_0 : decode cX12_lamp 0 = .ok (.iload_n 1, 1) := by decide +kernel
theorem dX12_lamp_1 : decode cX12_lamp 1 = .ok (.iconst 1, 1) := by decide +kernel
theorem dX12_lamp_2 : decode cX12_lamp 2 = .ok (.iconst 2, 1) := by decide +kernel
theorem dX12_lamp_3 : decode cX12_lamp 3 = .ok (.invokestatic 131, 3) := by decide +kernel
theorem dX12_lamp_6 : decode cX12_lamp 6 = .ok (.ifCond .eq 23, 3) := by decide +kernel
theorem dX12_lamp_9 : decode cX12_lamp 9 = .ok (.iload_n 2, 1) := by decide +kernel
theorem dX12_lamp_10 : decode cX12_lamp 10 = .ok (.bipush (-3), 2) := by decide +kernel
theorem dX12_lamp_12 : decode cX12_lamp 12 = .ok (.iconst 3, 1) := by decide +kernel
theorem dX12_lamp_13 : decode cX12_lamp 13 = .ok (.invokestatic 131, 3) := by decide +kernel
theorem dX12_lamp_16 : decode cX12_lamp 16 = .ok (.ifCond .eq 13, 3) := by decide +kernel
theorem dX12_lamp_19 : decode cX12_lamp 19 = .ok (.iload_n 3, 1) := by decide +kernel
theorem dX12_lamp_20 : decode cX12_lamp 20 = .ok (.bipush (-3), 2) := by decide +kernel
theorem dX12_lamp_22 : decode cX12_lamp 22 = .ok (.iconst 3, 1) := by decide +kernel
theorem dX12_lamp_23 : decode cX12_lamp 23 = .ok (.invokestatic 131, 3) := by decide +kernel
theorem dX12_lamp_26 : decode cX12_lamp 26 = .ok (.ifCond .ne 5, 3) := by decide +kernel
theorem dX12_lamp_29 : decode cX12_lamp 29 = .ok (.iconst (-1), 1) := by decide +kernel
theorem dX12_lamp_30 : decode cX12_lamp 30 = .ok (.ireturn, 1) := by decide +kernel
theorem dX12_lamp_31 : decode cX12_lamp 31 = .ok (.aload_n 0, 1) := by decide +kernel
theorem dX12_lamp_32 : decode cX12_lamp 32 = .ok (.invokevirtual 217, 3) := by decide +kernel
theorem dX12_lamp_35 : decode cX12_lamp 35 = .ok (.istore 4, 2) := by decide +kernel
theorem dX12_lamp_37 : decode cX12_lamp 37 = .ok (.aload_n 0, 1) := by decide +kernel
theorem dX12_lamp_38 : decode cX12_lamp 38 = .ok (.iload_n 1, 1) := by decide +kernel
theorem dX12_lamp_39 : decode cX12_lamp 39 = .ok (.iload_n 2, 1) := by decide +kernel
theorem dX12_lamp_40 : decode cX12_lamp 40 = .ok (.iload_n 3, 1) := by decide +kernel
theorem dX12_lamp_41 : decode cX12_lamp 41 = .ok (.invokevirtual 221, 3) := by decide +kernel
theorem dX12_lamp_44 : decode cX12_lamp 44 = .ok (.iload 4, 2) := by decide +kernel
theorem dX12_lamp_46 : decode cX12_lamp 46 = .ok (.ireturn, 1) := by decide +kernel
theorem dX12_layLamp_0 : decode cX12_layLamp 0 = .ok (.aload_n 0, 1) := by decide +kernel
theorem dX12_layLamp_1 : decode cX12_layLamp 1 = .ok (.iload_n 1, 1) := by decide +kernel
theorem dX12_layLamp_2 : decode cX12_layLamp 2 = .ok (.putfield 125, 3) := by decide +kernel
theorem dX12_layLamp_5 : decode cX12_layLamp 5 = .ok (.aload_n 0, 1) := by decide +kernel
theorem dX12_layLamp_6 : decode cX12_layLamp 6 = .ok (.iload_n 2, 1) := by decide +kernel
theorem dX12_layLamp_7 : decode cX12_layLamp 7 = .ok (.putfield 211, 3) := by decide +kernel
theorem dX12_layLamp_10 : decode cX12_layLamp 10 = .ok (.aload_n 0, 1) := by decide +kernel
theorem dX12_layLamp_11 : decode cX12_layLamp 11 = .ok (.iload_n 3, 1) := by decide +kernel
theorem dX12_layLamp_12 : decode cX12_layLamp 12 = .ok (.putfield 214, 3) := by decide +kernel
theorem dX12_layLamp_15 : decode cX12_layLamp 15 = .ok (.return_, 1) := by decide +kernel
theorem dX12_wayX_0 : decode cX12_wayX 0 = .ok (.iload_n 0, 1) := by decide +kernel
theorem dX12_wayX_1 : decode cX12_wayX 1 = .ok (.iconst 4, 1) := by decide +kernel
theorem dX12_wayX_2 : decode cX12_wayX 2 = .ok (.irem, 1) := by decide +kernel
theorem dX12_wayX_3 : decode cX12_wayX 3 = .ok (.ifCond .ne 7, 3) := by decide +kernel
theorem dX12_wayX_6 : decode cX12_wayX 6 = .ok (.iconst 0, 1) := by decide +kernel
theorem dX12_wayX_7 : decode cX12_wayX 7 = .ok (.goto 13, 3) := by decide +kernel
theorem dX12_wayX_10 : decode cX12_wayX 10 = .ok (.iload_n 0, 1) := by decide +kernel
theorem dX12_wayX_11 : decode cX12_wayX 11 = .ok (.iconst 4, 1) := by decide +kernel
theorem dX12_wayX_12 : decode cX12_wayX 12 = .ok (.if_icmp .ge 7, 3) := by decide +kernel
theorem dX12_wayX_15 : decode cX12_wayX 15 = .ok (.iconst 1, 1) := by decide +kernel
theorem dX12_wayX_16 : decode cX12_wayX 16 = .ok (.goto 4, 3) := by decide +kernel
theorem dX12_wayX_19 : decode cX12_wayX 19 = .ok (.iconst (-1), 1) := by decide +kernel
theorem dX12_wayX_20 : decode cX12_wayX 20 = .ok (.ireturn, 1) := by decide +kernel
theorem dX12_wayY_0 : decode cX12_wayY 0 = .ok (.iload_n 0, 1) := by decide +kernel
theorem dX12_wayY_1 : decode cX12_wayY 1 = .ok (.iconst 2, 1) := by decide +kernel
theorem dX12_wayY_2 : decode cX12_wayY 2 = .ok (.if_icmp .eq 9, 3) := by decide +kernel
theorem dX12_wayY_5 : decode cX12_wayY 5 = .ok (.iload_n 0, 1) := by decide +kernel
theorem dX12_wayY_6 : decode cX12_wayY 6 = .ok (.bipush 6, 2) := by decide +kernel
theorem dX12_wayY_8 : decode cX12_wayY 8 = .ok (.if_icmp .ne 7, 3) := by decide +kernel
theorem dX12_wayY_11 : decode cX12_wayY 11 = .ok (.iconst 0, 1) := by decide +kernel
theorem dX12_wayY_12 : decode cX12_wayY 12 = .ok (.goto 19, 3) := by decide +kernel
theorem dX12_wayY_15 : decode cX12_wayY 15 = .ok (.iload_n 0, 1) := by decide +kernel
theorem dX12_wayY_16 : decode cX12_wayY 16 = .ok (.iconst 2, 1) := by decide +kernel
theorem dX12_wayY_17 : decode cX12_wayY 17 = .ok (.if_icmp .le 13, 3) := by decide +kernel
theorem dX12_wayY_20 : decode cX12_wayY 20 = .ok (.iload_n 0, 1) := by decide +kernel
theorem dX12_wayY_21 : decode cX12_wayY 21 = .ok (.bipush 6, 2) := by decide +kernel
theorem dX12_wayY_23 : decode cX12_wayY 23 = .ok (.if_icmp .ge 7, 3) := by decide +kernel
theorem dX12_wayY_26 : decode cX12_wayY 26 = .ok (.iconst 1, 1) := by decide +kernel
theorem dX12_wayY_27 : decode cX12_wayY 27 = .ok (.goto 4, 3) := by decide +kernel
theorem dX12_wayY_30 : decode cX12_wayY 30 = .ok (.iconst (-1), 1) := by decide +kernel
theorem dX12_wayY_31 : decode cX12_wayY 31 = .ok (.ireturn, 1) := by decide +kernel
theorem dX12_point_0 : decode cX12_point 0 = .ok (.aload_n 0, 1) := by decide +kernel
theorem dX12_point_1 : decode cX12_point 1 = .ok (.getfield 50, 3) := by decide +kernel
theorem dX12_point_4 : decode cX12_point 4 = .ok (.aload_n 0, 1) := by decide +kernel
theorem dX12_point_5 : decode cX12_point 5 = .ok (.getfield 225, 3) := by decide +kernel
theorem dX12_point_8 : decode cX12_point 8 = .ok (.iload_n 1, 1) := by decide +kernel
theorem dX12_point_9 : decode cX12_point 9 = .ok (.iastore, 1) := by decide +kernel
theorem dX12_point_10 : decode cX12_point 10 = .ok (.aload_n 0, 1) := by decide +kernel
theorem dX12_point_11 : decode cX12_point 11 = .ok (.getfield 53, 3) := by decide +kernel
theorem dX12_point_14 : decode cX12_point 14 = .ok (.aload_n 0, 1) := by decide +kernel
theorem dX12_point_15 : decode cX12_point 15 = .ok (.getfield 225, 3) := by decide +kernel
theorem dX12_point_18 : decode cX12_point 18 = .ok (.iload_n 2, 1) := by decide +kernel
theorem dX12_point_19 : decode cX12_point 19 = .ok (.iastore, 1) := by decide +kernel
theorem dX12_point_20 : decode cX12_point 20 = .ok (.aload_n 0, 1) := by decide +kernel
theorem dX12_point_21 : decode cX12_point 21 = .ok (.dup, 1) := by decide +kernel
theorem dX12_point_22 : decode cX12_point 22 = .ok (.getfield 225, 3) := by decide +kernel
theorem dX12_point_25 : decode cX12_point 25 = .ok (.iconst 1, 1) := by decide +kernel
theorem dX12_point_26 : decode cX12_point 26 = .ok (.iadd, 1) := by decide +kernel
theorem dX12_point_27 : decode cX12_point 27 = .ok (.putfield 225, 3) := by decide +kernel
theorem dX12_point_30 : decode cX12_point 30 = .ok (.return_, 1) := by decide +kernel
theorem dX12_layPoints_0 : decode cX12_layPoints 0 = .ok (.aload_n 0, 1) := by decide +kernel
theorem dX12_layPoints_1 : decode cX12_layPoints 1 = .ok (.iconst 0, 1) := by decide +kernel
theorem dX12_layPoints_2 : decode cX12_layPoints 2 = .ok (.putfield 225, 3) := by decide +kernel
theorem dX12_layPoints_5 : decode cX12_layPoints 5 = .ok (.iconst 0, 1) := by decide +kernel
theorem dX12_layPoints_6 : decode cX12_layPoints 6 = .ok (.istore_n 2, 1) := by decide +kernel
theorem dX12_layPoints_7 : decode cX12_layPoints 7 = .ok (.iload_n 2, 1) := by decide +kernel
theorem dX12_layPoints_8 : decode cX12_layPoints 8 = .ok (.aload_n 0, 1) := by decide +kernel
theorem dX12_layPoints_9 : decode cX12_layPoints 9 = .ok (.getfield 193, 3) := by decide +kernel
theorem dX12_layPoints_12 : decode cX12_layPoints 12 = .ok (.if_icmp .ge 40, 3) := by decide +kernel
theorem dX12_layPoints_15 : decode cX12_layPoints 15 = .ok (.iload_n 1, 1) := by decide +kernel
theorem dX12_layPoints_16 : decode cX12_layPoints 16 = .ok (.ifCond .lt 8, 3) := by decide +kernel
theorem dX12_layPoints_19 : decode cX12_layPoints 19 = .ok (.iload_n 1, 1) := by decide +kernel
theorem dX12_layPoints_20 : decode cX12_layPoints 20 = .ok (.iload_n 2, 1) := by decide +kernel
theorem dX12_layPoints_21 : decode cX12_layPoints 21 = .ok (.if_icmp .ne 25, 3) := by decide +kernel
theorem dX12_layPoints_24 : decode cX12_layPoints 24 = .ok (.aload_n 0, 1) := by decide +kernel
theorem dX12_layPoints_25 : decode cX12_layPoints 25 = .ok (.aload_n 0, 1) := by decide +kernel
theorem dX12_layPoints_26 : decode cX12_layPoints 26 = .ok (.getfield 29, 3) := by decide +kernel
theorem dX12_layPoints_29 : decode cX12_layPoints 29 = .ok (.iload_n 2, 1) := by decide +kernel
theorem dX12_layPoints_30 : decode cX12_layPoints 30 = .ok (.iaload, 1) := by decide +kernel
theorem dX12_layPoints_31 : decode cX12_layPoints 31 = .ok (.bipush 12, 2) := by decide +kernel
theorem dX12_layPoints_33 : decode cX12_layPoints 33 = .ok (.irem, 1) := by decide +kernel
theorem dX12_layPoints_34 : decode cX12_layPoints 34 = .ok (.aload_n 0, 1) := by decide +kernel
theorem dX12_layPoints_35 : decode cX12_layPoints 35 = .ok (.getfield 29, 3) := by decide +kernel
theorem dX12_layPoints_38 : decode cX12_layPoints 38 = .ok (.iload_n 2, 1) := by decide +kernel
theorem dX12_layPoints_39 : decode cX12_layPoints 39 = .ok (.iaload, 1) := by decide +kernel
theorem dX12_layPoints_40 : decode cX12_layPoints 40 = .ok (.bipush 12, 2) := by decide +kernel
theorem dX12_layPoints_42 : decode cX12_layPoints 42 = .ok (.idiv, 1) := by decide +kernel
theorem dX12_layPoints_43 : decode cX12_layPoints 43 = .ok (.invokevirtual 228, 3) := by decide +kernel
theorem dX12_layPoints_46 : decode cX12_layPoints 46 = .ok (.iinc 2 1, 3) := by decide +kernel
theorem dX12_layPoints_49 : decode cX12_layPoints 49 = .ok (.goto (-42), 3) := by decide +kernel
theorem dX12_layPoints_52 : decode cX12_layPoints 52 = .ok (.iconst 0, 1) := by decide +kernel
theorem dX12_layPoints_53 : decode cX12_layPoints 53 = .ok (.istore_n 2, 1) := by decide +kernel
theorem dX12_layPoints_54 : decode cX12_layPoints 54 = .ok (.iload_n 2, 1) := by decide +kernel
theorem dX12_layPoints_55 : decode cX12_layPoints 55 = .ok (.aload_n 0, 1) := by decide +kernel
theorem dX12_layPoints_56 : decode cX12_layPoints 56 = .ok (.getfield 196, 3) := by decide +kernel
theorem dX12_layPoints_59 : decode cX12_layPoints 59 = .ok (.if_icmp .ge 30, 3) := by decide +kernel
theorem dX12_layPoints_62 : decode cX12_layPoints 62 = .ok (.iload_n 1, 1) := by decide +kernel
theorem dX12_layPoints_63 : decode cX12_layPoints 63 = .ok (.ifCond .lt 15, 3) := by decide +kernel
theorem dX12_layPoints_66 : decode cX12_layPoints 66 = .ok (.iload_n 1, 1) := by decide +kernel
theorem dX12_layPoints_67 : decode cX12_layPoints 67 = .ok (.aload_n 0, 1) := by decide +kernel
theorem dX12_layPoints_68 : decode cX12_layPoints 68 = .ok (.getfield 32, 3) := by decide +kernel
theorem dX12_layPoints_71 : decode cX12_layPoints 71 = .ok (.iconst 4, 1) := by decide +kernel
theorem dX12_layPoints_72 : decode cX12_layPoints 72 = .ok (.iload_n 2, 1) := by decide +kernel
theorem dX12_layPoints_73 : decode cX12_layPoints 73 = .ok (.imul, 1) := by decide +kernel
theorem dX12_layPoints_74 : decode cX12_layPoints 74 = .ok (.iaload, 1) := by decide +kernel
theorem dX12_layPoints_75 : decode cX12_layPoints 75 = .ok (.if_icmp .ne 8, 3) := by decide +kernel
theorem dX12_layPoints_78 : decode cX12_layPoints 78 = .ok (.aload_n 0, 1) := by decide +kernel
theorem dX12_layPoints_79 : decode cX12_layPoints 79 = .ok (.iload_n 2, 1) := by decide +kernel
theorem dX12_layPoints_80 : decode cX12_layPoints 80 = .ok (.invokevirtual 232, 3) := by decide +kernel
theorem dX12_layPoints_83 : decode cX12_layPoints 83 = .ok (.iinc 2 1, 3) := by decide +kernel
theorem dX12_layPoints_86 : decode cX12_layPoints 86 = .ok (.goto (-32), 3) := by decide +kernel
theorem dX12_layPoints_89 : decode cX12_layPoints 89 = .ok (.return_, 1) := by decide +kernel
theorem dX12_layFinger_0 : decode cX12_layFinger 0 = .ok (.aload_n 0, 1) := by decide +kernel
theorem dX12_layFinger_1 : decode cX12_layFinger 1 = .ok (.getfield 32, 3) := by decide +kernel
theorem dX12_layFinger_4 : decode cX12_layFinger 4 = .ok (.iconst 4, 1) := by decide +kernel
theorem dX12_layFinger_5 : decode cX12_layFinger 5 = .ok (.iload_n 1, 1) := by decide +kernel
theorem dX12_layFinger_6 : decode cX12_layFinger 6 = .ok (.imul, 1) := by decide +kernel
theorem dX12_layFinger_7 : decode cX12_layFinger 7 = .ok (.iconst 1, 1) := by decide +kernel
theorem dX12_layFinger_8 : decode cX12_layFinger 8 = .ok (.iadd, 1) := by decide +kernel
theorem dX12_layFinger_9 : decode cX12_layFinger 9 = .ok (.iaload, 1) := by decide +kernel
theorem dX12_layFinger_10 : decode cX12_layFinger 10 = .ok (.istore_n 2, 1) := by decide +kernel
theorem dX12_layFinger_11 : decode cX12_layFinger 11 = .ok (.aload_n 0, 1) := by decide +kernel
theorem dX12_layFinger_12 : decode cX12_layFinger 12 = .ok (.getfield 29, 3) := by decide +kernel
theorem dX12_layFinger_15 : decode cX12_layFinger 15 = .ok (.aload_n 0, 1) := by decide +kernel
theorem dX12_layFinger_16 : decode cX12_layFinger 16 = .ok (.getfield 32, 3) := by decide +kernel
theorem dX12_layFinger_19 : decode cX12_layFinger 19 = .ok (.iconst 4, 1) := by decide +kernel
theorem dX12_layFinger_20 : decode cX12_layFinger 20 = .ok (.iload_n 1, 1) := by decide +kernel
theorem dX12_layFinger_21 : decode cX12_layFinger 21 = .ok (.imul, 1) := by decide +kernel
theorem dX12_layFinger_22 : decode cX12_layFinger 22 = .ok (.iaload, 1) := by decide +kernel
theorem dX12_layFinger_23 : decode cX12_layFinger 23 = .ok (.iaload, 1) := by decide +kernel
theorem dX12_layFinger_24 : decode cX12_layFinger 24 = .ok (.bipush 12, 2) := by decide +kernel
theorem dX12_layFinger_26 : decode cX12_layFinger 26 = .ok (.irem, 1) := by decide +kernel
theorem dX12_layFinger_27 : decode cX12_layFinger 27 = .ok (.iload_n 2, 1) := by decide +kernel
theorem dX12_layFinger_28 : decode cX12_layFinger 28 = .ok (.invokestatic 236, 3) := by decide +kernel
theorem dX12_layFinger_31 : decode cX12_layFinger 31 = .ok (.iadd, 1) := by decide +kernel
theorem dX12_layFinger_32 : decode cX12_layFinger 32 = .ok (.istore_n 3, 1) := by decide +kernel
theorem dX12_layFinger_33 : decode cX12_layFinger 33 = .ok (.aload_n 0, 1) := by decide +kernel
theorem dX12_layFinger_34 : decode cX12_layFinger 34 = .ok (.getfield 29, 3) := by decide +kernel
theorem dX12_layFinger_37 : decode cX12_layFinger 37 = .ok (.aload_n 0, 1) := by decide +kernel
theorem dX12_layFinger_38 : decode cX12_layFinger 38 = .ok (.getfield 32, 3) := by decide +kernel
theorem dX12_layFinger_41 : decode cX12_layFinger 41 = .ok (.iconst 4, 1) := by decide +kernel
theorem dX12_layFinger_42 : decode cX12_layFinger 42 = .ok (.iload_n 1, 1) := by decide +kernel
theorem dX12_layFinger_43 : decode cX12_layFinger 43 = .ok (.imul, 1) := by decide +kernel
theorem dX12_layFinger_44 : decode cX12_layFinger 44 = .ok (.iaload, 1) := by decide +kernel
theorem dX12_layFinger_45 : decode cX12_layFinger 45 = .ok (.iaload, 1) := by decide +kernel
theorem dX12_layFinger_46 : decode cX12_layFinger 46 = .ok (.bipush 12, 2) := by decide +kernel
theorem dX12_layFinger_48 : decode cX12_layFinger 48 = .ok (.idiv, 1) := by decide +kernel
theorem dX12_layFinger_49 : decode cX12_layFinger 49 = .ok (.iload_n 2, 1) := by decide +kernel
theorem dX12_layFinger_50 : decode cX12_layFinger 50 = .ok (.invokestatic 239, 3) := by decide +kernel
theorem dX12_layFinger_53 : decode cX12_layFinger 53 = .ok (.iadd, 1) := by decide +kernel
theorem dX12_layFinger_54 : decode cX12_layFinger 54 = .ok (.istore 4, 2) := by decide +kernel
theorem dX12_layFinger_56 : decode cX12_layFinger 56 = .ok (.aload_n 0, 1) := by decide +kernel
theorem dX12_layFinger_57 : decode cX12_layFinger 57 = .ok (.iload_n 3, 1) := by decide +kernel
theorem dX12_layFinger_58 : decode cX12_layFinger 58 = .ok (.iload 4, 2) := by decide +kernel
theorem dX12_layFinger_60 : decode cX12_layFinger 60 = .ok (.invokevirtual 228, 3) := by decide +kernel
theorem dX12_layFinger_63 : decode cX12_layFinger 63 = .ok (.iconst 0, 1) := by decide +kernel
theorem dX12_layFinger_64 : decode cX12_layFinger 64 = .ok (.istore 5, 2) := by decide +kernel
theorem dX12_layFinger_66 : decode cX12_layFinger 66 = .ok (.iload 5, 2) := by decide +kernel
theorem dX12_layFinger_68 : decode cX12_layFinger 68 = .ok (.aload_n 0, 1) := by decide +kernel
theorem dX12_layFinger_69 : decode cX12_layFinger 69 = .ok (.getfield 32, 3) := by decide +kernel
theorem dX12_layFinger_72 : decode cX12_layFinger 72 = .ok (.iconst 4, 1) := by decide +kernel
theorem dX12_layFinger_73 : decode cX12_layFinger 73 = .ok (.iload_n 1, 1) := by decide +kernel
theorem dX12_layFinger_74 : decode cX12_layFinger 74 = .ok (.imul, 1) := by decide +kernel
theorem dX12_layFinger_75 : decode cX12_layFinger 75 = .ok (.iconst 3, 1) := by decide +kernel
theorem dX12_layFinger_76 : decode cX12_layFinger 76 = .ok (.iadd, 1) := by decide +kernel
theorem dX12_layFinger_77 : decode cX12_layFinger 77 = .ok (.iaload, 1) := by decide +kernel
theorem dX12_layFinger_78 : decode cX12_layFinger 78 = .ok (.if_icmp .ge 59, 3) := by decide +kernel
theorem dX12_layFinger_81 : decode cX12_layFinger 81 = .ok (.iload_n 2, 1) := by decide +kernel
theorem dX12_layFinger_82 : decode cX12_layFinger 82 = .ok (.aload_n 0, 1) := by decide +kernel
theorem dX12_layFinger_83 : decode cX12_layFinger 83 = .ok (.getfield 47, 3) := by decide +kernel
theorem dX12_layFinger_86 : decode cX12_layFinger 86 = .ok (.aload_n 0, 1) := by decide +kernel
theorem dX12_layFinger_87 : decode cX12_layFinger 87 = .ok (.getfield 32, 3) := by decide +kernel
theorem dX12_layFinger_90 : decode cX12_layFinger 90 = .ok (.iconst 4, 1) := by decide +kernel
theorem dX12_layFinger_91 : decode cX12_layFinger 91 = .ok (.iload_n 1, 1) := by decide +kernel
theorem dX12_layFinger_92 : decode cX12_layFinger 92 = .ok (.imul, 1) := by decide +kernel
theorem dX12_layFinger_93 : decode cX12_layFinger 93 = .ok (.iconst 2, 1) := by decide +kernel
theorem dX12_layFinger_94 : decode cX12_layFinger 94 = .ok (.iadd, 1) := by decide +kernel
theorem dX12_layFinger_95 : decode cX12_layFinger 95 = .ok (.iaload, 1) := by decide +kernel
theorem dX12_layFinger_96 : decode cX12_layFinger 96 = .ok (.iload 5, 2) := by decide +kernel
theorem dX12_layFinger_98 : decode cX12_layFinger 98 = .ok (.iadd, 1) := by decide +kernel
theorem dX12_layFinger_99 : decode cX12_layFinger 99 = .ok (.iaload, 1) := by decide +kernel
theorem dX12_layFinger_100 : decode cX12_layFinger 100 = .ok (.iadd, 1) := by decide +kernel
theorem dX12_layFinger_101 : decode cX12_layFinger 101 = .ok (.bipush 8, 2) := by decide +kernel
theorem dX12_layFinger_103 : decode cX12_layFinger 103 = .ok (.iadd, 1) := by decide +kernel
theorem dX12_layFinger_104 : decode cX12_layFinger 104 = .ok (.bipush 8, 2) := by decide +kernel
theorem dX12_layFinger_106 : decode cX12_layFinger 106 = .ok (.irem, 1) := by decide +kernel
theorem dX12_layFinger_107 : decode cX12_layFinger 107 = .ok (.istore_n 2, 1) := by decide +kernel
theorem dX12_layFinger_108 : decode cX12_layFinger 108 = .ok (.iload_n 3, 1) := by decide +kernel
theorem dX12_layFinger_109 : decode cX12_layFinger 109 = .ok (.iload_n 2, 1) := by decide +kernel
theorem dX12_layFinger_110 : decode cX12_layFinger 110 = .ok (.invokestatic 236, 3) := by decide +kernel
theorem dX12_layFinger_113 : decode cX12_layFinger 113 = .ok (.iadd, 1) := by decide +kernel
theorem dX12_layFinger_114 : decode cX12_layFinger 114 = .ok (.istore_n 3, 1) := by decide +kernel
theorem dX12_layFinger_115 : decode cX12_layFinger 115 = .ok (.iload 4, 2) := by decide +kernel
theorem dX12_layFinger_117 : decode cX12_layFinger 117 = .ok (.iload_n 2, 1) := by decide +kernel
theorem dX12_layFinger_118 : decode cX12_layFinger 118 = .ok (.invokestatic 239, 3) := by decide +kernel
theorem dX12_layFinger_121 : decode cX12_layFinger 121 = .ok (.iadd, 1) := by decide +kernel
theorem dX12_layFinger_122 : decode cX12_layFinger 122 = .ok (.istore 4, 2) := by decide +kernel
theorem dX12_layFinger_124 : decode cX12_layFinger 124 = .ok (.aload_n 0, 1) := by decide +kernel
theorem dX12_layFinger_125 : decode cX12_layFinger 125 = .ok (.iload_n 3, 1) := by decide +kernel
theorem dX12_layFinger_126 : decode cX12_layFinger 126 = .ok (.iload 4, 2) := by decide +kernel
theorem dX12_layFinger_128 : decode cX12_layFinger 128 = .ok (.invokevirtual 228, 3) := by decide +kernel
theorem dX12_layFinger_131 : decode cX12_layFinger 131 = .ok (.iinc 5 1, 3) := by decide +kernel
theorem dX12_layFinger_134 : decode cX12_layFinger 134 = .ok (.goto (-68), 3) := by decide +kernel
theorem dX12_layFinger_137 : decode cX12_layFinger 137 = .ok (.return_, 1) := by decide +kernel
theorem dX12_isOn_0 : decode cX12_isOn 0 = .ok (.iload_n 0, 1) := by decide +kernel
theorem dX12_isOn_1 : decode cX12_isOn 1 = .ok (.iconst 0, 1) := by decide +kernel
theorem dX12_isOn_2 : decode cX12_isOn 2 = .ok (.bipush 11, 2) := by decide +kernel
theorem dX12_isOn_4 : decode cX12_isOn 4 = .ok (.invokestatic 131, 3) := by decide +kernel
theorem dX12_isOn_7 : decode cX12_isOn 7 = .ok (.ifCond .eq 17, 3) := by decide +kernel
theorem dX12_isOn_10 : decode cX12_isOn 10 = .ok (.iload_n 1, 1) := by decide +kernel
theorem dX12_isOn_11 : decode cX12_isOn 11 = .ok (.iconst 0, 1) := by decide +kernel
theorem dX12_isOn_12 : decode cX12_isOn 12 = .ok (.bipush 9, 2) := by decide +kernel
theorem dX12_isOn_14 : decode cX12_isOn 14 = .ok (.invokestatic 131, 3) := by decide +kernel
theorem dX12_isOn_17 : decode cX12_isOn 17 = .ok (.ifCond .eq 7, 3) := by decide +kernel
theorem dX12_isOn_20 : decode cX12_isOn 20 = .ok (.iconst 1, 1) := by decide +kernel
theorem dX12_isOn_21 : decode cX12_isOn 21 = .ok (.goto 4, 3) := by decide +kernel
theorem dX12_isOn_24 : decode cX12_isOn 24 = .ok (.iconst 0, 1) := by decide +kernel
theorem dX12_isOn_25 : decode cX12_isOn 25 = .ok (.ireturn, 1) := by decide +kernel
theorem dX12_wrongMany_0 : decode cX12_wrongMany 0 = .ok (.iconst 0, 1) := by decide +kernel
theorem dX12_wrongMany_1 : decode cX12_wrongMany 1 = .ok (.istore_n 1, 1) := by decide +kernel
theorem dX12_wrongMany_2 : decode cX12_wrongMany 2 = .ok (.iconst 0, 1) := by decide +kernel
theorem dX12_wrongMany_3 : decode cX12_wrongMany 3 = .ok (.istore_n 2, 1) := by decide +kernel
theorem dX12_wrongMany_4 : decode cX12_wrongMany 4 = .ok (.iload_n 2, 1) := by decide +kernel
theorem dX12_wrongMany_5 : decode cX12_wrongMany 5 = .ok (.aload_n 0, 1) := by decide +kernel
theorem dX12_wrongMany_6 : decode cX12_wrongMany 6 = .ok (.getfield 225, 3) := by decide +kernel
theorem dX12_wrongMany_9 : decode cX12_wrongMany 9 = .ok (.if_icmp .ge 102, 3) := by decide +kernel
theorem dX12_wrongMany_12 : decode cX12_wrongMany 12 = .ok (.aload_n 0, 1) := by decide +kernel
theorem dX12_wrongMany_13 : decode cX12_wrongMany 13 = .ok (.getfield 50, 3) := by decide +kernel
theorem dX12_wrongMany_16 : decode cX12_wrongMany 16 = .ok (.iload_n 2, 1) := by decide +kernel
theorem dX12_wrongMany_17 : decode cX12_wrongMany 17 = .ok (.iaload, 1) := by decide +kernel
theorem dX12_wrongMany_18 : decode cX12_wrongMany 18 = .ok (.aload_n 0, 1) := by decide +kernel
theorem dX12_wrongMany_19 : decode cX12_wrongMany 19 = .ok (.getfield 53, 3) := by decide +kernel
theorem dX12_wrongMany_22 : decode cX12_wrongMany 22 = .ok (.iload_n 2, 1) := by decide +kernel
theorem dX12_wrongMany_23 : decode cX12_wrongMany 23 = .ok (.iaload, 1) := by decide +kernel
theorem dX12_wrongMany_24 : decode cX12_wrongMany 24 = .ok (.invokestatic 242, 3) := by decide +kernel
theorem dX12_wrongMany_27 : decode cX12_wrongMany 27 = .ok (.ifCond .ne 7, 3) := by decide +kernel
theorem dX12_wrongMany_30 : decode cX12_wrongMany 30 = .ok (.iconst 1, 1) := by decide +kernel
theorem dX12_wrongMany_31 : decode cX12_wrongMany 31 = .ok (.goto 4, 3) := by decide +kernel
theorem dX12_wrongMany_34 : decode cX12_wrongMany 34 = .ok (.iconst 0, 1) := by decide +kernel
theorem dX12_wrongMany_35 : decode cX12_wrongMany 35 = .ok (.istore_n 3, 1) := by decide +kernel
theorem dX12_wrongMany_36 : decode cX12_wrongMany 36 = .ok (.iconst 0, 1) := by decide +kernel
theorem dX12_wrongMany_37 : decode cX12_wrongMany 37 = .ok (.istore 4, 2) := by decide +kernel
theorem dX12_wrongMany_39 : decode cX12_wrongMany 39 = .ok (.iload 4, 2) := by decide +kernel
theorem dX12_wrongMany_41 : decode cX12_wrongMany 41 = .ok (.iload_n 2, 1) := by decide +kernel
theorem dX12_wrongMany_42 : decode cX12_wrongMany 42 = .ok (.if_icmp .ge 51, 3) := by decide +kernel
theorem dX12_wrongMany_45 : decode cX12_wrongMany 45 = .ok (.iload_n 3, 1) := by decide +kernel
theorem dX12_wrongMany_46 : decode cX12_wrongMany 46 = .ok (.ifCond .ne 35, 3) := by decide +kernel
theorem dX12_wrongMany_49 : decode cX12_wrongMany 49 = .ok (.aload_n 0, 1) := by decide +kernel
theorem dX12_wrongMany_50 : decode cX12_wrongMany 50 = .ok (.getfield 50, 3) := by decide +kernel
theorem dX12_wrongMany_53 : decode cX12_wrongMany 53 = .ok (.iload 4, 2) := by decide +kernel
theorem dX12_wrongMany_55 : decode cX12_wrongMany 55 = .ok (.iaload, 1) := by decide +kernel
theorem dX12_wrongMany_56 : decode cX12_wrongMany 56 = .ok (.aload_n 0, 1) := by decide +kernel
theorem dX12_wrongMany_57 : decode cX12_wrongMany 57 = .ok (.getfield 50, 3) := by decide +kernel
theorem dX12_wrongMany_60 : decode cX12_wrongMany 60 = .ok (.iload_n 2, 1) := by decide +kernel
theorem dX12_wrongMany_61 : decode cX12_wrongMany 61 = .ok (.iaload, 1) := by decide +kernel
theorem dX12_wrongMany_62 : decode cX12_wrongMany 62 = .ok (.if_icmp .ne 23, 3) := by decide +kernel
theorem dX12_wrongMany_65 : decode cX12_wrongMany 65 = .ok (.aload_n 0, 1) := by decide +kernel
theorem dX12_wrongMany_66 : decode cX12_wrongMany 66 = .ok (.getfield 53, 3) := by decide +kernel
theorem dX12_wrongMany_69 : decode cX12_wrongMany 69 = .ok (.iload 4, 2) := by decide +kernel
theorem dX12_wrongMany_71 : decode cX12_wrongMany 71 = .ok (.iaload, 1) := by decide +kernel
theorem dX12_wrongMany_72 : decode cX12_wrongMany 72 = .ok (.aload_n 0, 1) := by decide +kernel
theorem dX12_wrongMany_73 : decode cX12_wrongMany 73 = .ok (.getfield 53, 3) := by decide +kernel
theorem dX12_wrongMany_76 : decode cX12_wrongMany 76 = .ok (.iload_n 2, 1) := by decide +kernel
theorem dX12_wrongMany_77 : decode cX12_wrongMany 77 = .ok (.iaload, 1) := by decide +kernel
theorem dX12_wrongMany_78 : decode cX12_wrongMany 78 = .ok (.if_icmp .ne 7, 3) := by decide +kernel
theorem dX12_wrongMany_81 : decode cX12_wrongMany 81 = .ok (.iconst 1, 1) := by decide +kernel
theorem dX12_wrongMany_82 : decode cX12_wrongMany 82 = .ok (.goto 4, 3) := by decide +kernel
theorem dX12_wrongMany_85 : decode cX12_wrongMany 85 = .ok (.iconst 0, 1) := by decide +kernel
theorem dX12_wrongMany_86 : decode cX12_wrongMany 86 = .ok (.istore_n 3, 1) := by decide +kernel
theorem dX12_wrongMany_87 : decode cX12_wrongMany 87 = .ok (.iinc 4 1, 3) := by decide +kernel
theorem dX12_wrongMany_90 : decode cX12_wrongMany 90 = .ok (.goto (-51), 3) := by decide +kernel
theorem dX12_wrongMany_93 : decode cX12_wrongMany 93 = .ok (.iload_n 1, 1) := by decide +kernel
theorem dX12_wrongMany_94 : decode cX12_wrongMany 94 = .ok (.iload_n 3, 1) := by decide +kernel
theorem dX12_wrongMany_95 : decode cX12_wrongMany 95 = .ok (.ifCond .eq 7, 3) := by decide +kernel
theorem dX12_wrongMany_98 : decode cX12_wrongMany 98 = .ok (.iconst 1, 1) := by decide +kernel
theorem dX12_wrongMany_99 : decode cX12_wrongMany 99 = .ok (.goto 4, 3) := by decide +kernel
theorem dX12_wrongMany_102 : decode cX12_wrongMany 102 = .ok (.iconst 0, 1) := by decide +kernel
theorem dX12_wrongMany_103 : decode cX12_wrongMany 103 = .ok (.iadd, 1) := by decide +kernel
theorem dX12_wrongMany_104 : decode cX12_wrongMany 104 = .ok (.istore_n 1, 1) := by decide +kernel
theorem dX12_wrongMany_105 : decode cX12_wrongMany 105 = .ok (.iinc 2 1, 3) := by decide +kernel
theorem dX12_wrongMany_108 : decode cX12_wrongMany 108 = .ok (.goto (-104), 3) := by decide +kernel
theorem dX12_wrongMany_111 : decode cX12_wrongMany 111 = .ok (.iload_n 1, 1) := by decide +kernel
theorem dX12_wrongMany_112 : decode cX12_wrongMany 112 = .ok (.ireturn, 1) := by decide +kernel
theorem dX12_turned_0 : decode cX12_turned 0 = .ok (.iconst 0, 1) := by decide +kernel
theorem dX12_turned_1 : decode cX12_turned 1 = .ok (.istore_n 2, 1) := by decide +kernel
theorem dX12_turned_2 : decode cX12_turned 2 = .ok (.iconst 0, 1) := by decide +kernel
theorem dX12_turned_3 : decode cX12_turned 3 = .ok (.istore_n 3, 1) := by decide +kernel
theorem dX12_turned_4 : decode cX12_turned 4 = .ok (.iload_n 3, 1) := by decide +kernel
theorem dX12_turned_5 : decode cX12_turned 5 = .ok (.aload_n 0, 1) := by decide +kernel
theorem dX12_turned_6 : decode cX12_turned 6 = .ok (.getfield 199, 3) := by decide +kernel
theorem dX12_turned_9 : decode cX12_turned 9 = .ok (.if_icmp .ge 76, 3) := by decide +kernel
theorem dX12_turned_12 : decode cX12_turned 12 = .ok (.iload_n 1, 1) := by decide +kernel
theorem dX12_turned_13 : decode cX12_turned 13 = .ok (.ifCond .lt 22, 3) := by decide +kernel
theorem dX12_turned_16 : decode cX12_turned 16 = .ok (.aload_n 0, 1) := by decide +kernel
theorem dX12_turned_17 : decode cX12_turned 17 = .ok (.getfield 32, 3) := by decide +kernel
theorem dX12_turned_20 : decode cX12_turned 20 = .ok (.iconst 4, 1) := by decide +kernel
theorem dX12_turned_21 : decode cX12_turned 21 = .ok (.aload_n 0, 1) := by decide +kernel
theorem dX12_turned_22 : decode cX12_turned 22 = .ok (.getfield 35, 3) := by decide +kernel
theorem dX12_turned_25 : decode cX12_turned 25 = .ok (.iconst 3, 1) := by decide +kernel
theorem dX12_turned_26 : decode cX12_turned 26 = .ok (.iload_n 3, 1) := by decide +kernel
theorem dX12_turned_27 : decode cX12_turned 27 = .ok (.imul, 1) := by decide +kernel
theorem dX12_turned_28 : decode cX12_turned 28 = .ok (.iaload, 1) := by decide +kernel
theorem dX12_turned_29 : decode cX12_turned 29 = .ok (.imul, 1) := by decide +kernel
theorem dX12_turned_30 : decode cX12_turned 30 = .ok (.iaload, 1) := by decide +kernel
theorem dX12_turned_31 : decode cX12_turned 31 = .ok (.iload_n 1, 1) := by decide +kernel
theorem dX12_turned_32 : decode cX12_turned 32 = .ok (.if_icmp .ne 7, 3) := by decide +kernel
theorem dX12_turned_35 : decode cX12_turned 35 = .ok (.iconst 1, 1) := by decide +kernel
theorem dX12_turned_36 : decode cX12_turned 36 = .ok (.goto 4, 3) := by decide +kernel
theorem dX12_turned_39 : decode cX12_turned 39 = .ok (.iconst 0, 1) := by decide +kernel
theorem dX12_turned_40 : decode cX12_turned 40 = .ok (.istore 4, 2) := by decide +kernel
theorem dX12_turned_42 : decode cX12_turned 42 = .ok (.iload_n 2, 1) := by decide +kernel
theorem dX12_turned_43 : decode cX12_turned 43 = .ok (.iload 4, 2) := by decide +kernel
theorem dX12_turned_45 : decode cX12_turned 45 = .ok (.ifCond .ne 7, 3) := by decide +kernel
theorem dX12_turned_48 : decode cX12_turned 48 = .ok (.iconst 0, 1) := by decide +kernel
theorem dX12_turned_49 : decode cX12_turned 49 = .ok (.goto 28, 3) := by decide +kernel
theorem dX12_turned_52 : decode cX12_turned 52 = .ok (.aload_n 0, 1) := by decide +kernel
theorem dX12_turned_53 : decode cX12_turned 53 = .ok (.getfield 47, 3) := by decide +kernel
theorem dX12_turned_56 : decode cX12_turned 56 = .ok (.iload_n 3, 1) := by decide +kernel
theorem dX12_turned_57 : decode cX12_turned 57 = .ok (.iaload, 1) := by decide +kernel
theorem dX12_turned_58 : decode cX12_turned 58 = .ok (.ifCond .ge 13, 3) := by decide +kernel
theorem dX12_turned_61 : decode cX12_turned 61 = .ok (.aload_n 0, 1) := by decide +kernel
theorem dX12_turned_62 : decode cX12_turned 62 = .ok (.getfield 47, 3) := by decide +kernel
theorem dX12_turned_65 : decode cX12_turned 65 = .ok (.iload_n 3, 1) := by decide +kernel
theorem dX12_turned_66 : decode cX12_turned 66 = .ok (.iaload, 1) := by decide +kernel
theorem dX12_turned_67 : decode cX12_turned 67 = .ok (.ineg, 1) := by decide +kernel
theorem dX12_turned_68 : decode cX12_turned 68 = .ok (.goto 9, 3) := by decide +kernel
theorem dX12_turned_71 : decode cX12_turned 71 = .ok (.aload_n 0, 1) := by decide +kernel
theorem dX12_turned_72 : decode cX12_turned 72 = .ok (.getfield 47, 3) := by decide +kernel
theorem dX12_turned_75 : decode cX12_turned 75 = .ok (.iload_n 3, 1) := by decide +kernel
theorem dX12_turned_76 : decode cX12_turned 76 = .ok (.iaload, 1) := by decide +kernel
theorem dX12_turned_77 : decode cX12_turned 77 = .ok (.iadd, 1) := by decide +kernel
theorem dX12_turned_78 : decode cX12_turned 78 = .ok (.istore_n 2, 1) := by decide +kernel
theorem dX12_turned_79 : decode cX12_turned 79 = .ok (.iinc 3 1, 3) := by decide +kernel
theorem dX12_turned_82 : decode cX12_turned 82 = .ok (.goto (-78), 3) := by decide +kernel
theorem dX12_turned_85 : decode cX12_turned 85 = .ok (.iload_n 2, 1) := by decide +kernel
theorem dX12_turned_86 : decode cX12_turned 86 = .ok (.ireturn, 1) := by decide +kernel
theorem dX12_kindNow_0 : decode cX12_kindNow 0 = .ok (.aload_n 0, 1) := by decide +kernel
theorem dX12_kindNow_1 : decode cX12_kindNow 1 = .ok (.invokevirtual 245, 3) := by decide +kernel
theorem dX12_kindNow_4 : decode cX12_kindNow 4 = .ok (.ifCond .le 7, 3) := by decide +kernel
theorem dX12_kindNow_7 : decode cX12_kindNow 7 = .ok (.iconst 3, 1) := by decide +kernel
theorem dX12_kindNow_8 : decode cX12_kindNow 8 = .ok (.goto 20, 3) := by decide +kernel
theorem dX12_kindNow_11 : decode cX12_kindNow 11 = .ok (.aload_n 0, 1) := by decide +kernel
theorem dX12_kindNow_12 : decode cX12_kindNow 12 = .ok (.iload_n 1, 1) := by decide +kernel
theorem dX12_kindNow_13 : decode cX12_kindNow 13 = .ok (.invokevirtual 248, 3) := by decide +kernel
theorem dX12_kindNow_16 : decode cX12_kindNow 16 = .ok (.aload_n 0, 1) := by decide +kernel
theorem dX12_kindNow_17 : decode cX12_kindNow 17 = .ok (.getfield 121, 3) := by decide +kernel
theorem dX12_kindNow_20 : decode cX12_kindNow 20 = .ok (.if_icmp .le 7, 3) := by decide +kernel
theorem dX12_kindNow_23 : decode cX12_kindNow 23 = .ok (.iconst 2, 1) := by decide +kernel
theorem dX12_kindNow_24 : decode cX12_kindNow 24 = .ok (.goto 4, 3) := by decide +kernel
theorem dX12_kindNow_27 : decode cX12_kindNow 27 = .ok (.iconst 1, 1) := by decide +kernel
theorem dX12_kindNow_28 : decode cX12_kindNow 28 = .ok (.ireturn, 1) := by decide +kernel
theorem dX12_turnsMany_0 : decode cX12_turnsMany 0 = .ok (.iconst 1, 1) := by decide +kernel
theorem dX12_turnsMany_1 : decode cX12_turnsMany 1 = .ok (.istore_n 1, 1) := by decide +kernel
theorem dX12_turnsMany_2 : decode cX12_turnsMany 2 = .ok (.iconst 0, 1) := by decide +kernel
theorem dX12_turnsMany_3 : decode cX12_turnsMany 3 = .ok (.istore_n 2, 1) := by decide +kernel
theorem dX12_turnsMany_4 : decode cX12_turnsMany 4 = .ok (.iload_n 2, 1) := by decide +kernel
theorem dX12_turnsMany_5 : decode cX12_turnsMany 5 = .ok (.aload_n 0, 1) := by decide +kernel
theorem dX12_turnsMany_6 : decode cX12_turnsMany 6 = .ok (.getfield 199, 3) := by decide +kernel
theorem dX12_turnsMany_9 : decode cX12_turnsMany 9 = .ok (.if_icmp .ge 25, 3) := by decide +kernel
theorem dX12_turnsMany_12 : decode cX12_turnsMany 12 = .ok (.iload_n 1, 1) := by decide +kernel
theorem dX12_turnsMany_13 : decode cX12_turnsMany 13 = .ok (.aload_n 0, 1) := by decide +kernel
theorem dX12_turnsMany_14 : decode cX12_turnsMany 14 = .ok (.iload_n 2, 1) := by decide +kernel
theorem dX12_turnsMany_15 : decode cX12_turnsMany 15 = .ok (.invokevirtual 251, 3) := by decide +kernel
theorem dX12_turnsMany_18 : decode cX12_turnsMany 18 = .ok (.aload_n 0, 1) := by decide +kernel
theorem dX12_turnsMany_19 : decode cX12_turnsMany 19 = .ok (.iload_n 2, 1) := by decide +kernel
theorem dX12_turnsMany_20 : decode cX12_turnsMany 20 = .ok (.invokevirtual 254, 3) := by decide +kernel
theorem dX12_turnsMany_23 : decode cX12_turnsMany 23 = .ok (.isub, 1) := by decide +kernel
theorem dX12_turnsMany_24 : decode cX12_turnsMany 24 = .ok (.iconst 1, 1) := by decide +kernel
theorem dX12_turnsMany_25 : decode cX12_turnsMany 25 = .ok (.iadd, 1) := by decide +kernel
theorem dX12_turnsMany_26 : decode cX12_turnsMany 26 = .ok (.imul, 1) := by decide +kernel
theorem dX12_turnsMany_27 : decode cX12_turnsMany 27 = .ok (.istore_n 1, 1) := by decide +kernel
theorem dX12_turnsMany_28 : decode cX12_turnsMany 28 = .ok (.iinc 2 1, 3) := by decide +kernel
theorem dX12_turnsMany_31 : decode cX12_turnsMany 31 = .ok (.goto (-27), 3) := by decide +kernel
theorem dX12_turnsMany_34 : decode cX12_turnsMany 34 = .ok (.iload_n 1, 1) := by decide +kernel
theorem dX12_turnsMany_35 : decode cX12_turnsMany 35 = .ok (.ireturn, 1) := by decide +kernel
theorem dX12_layTurns_0 : decode cX12_layTurns 0 = .ok (.iload_n 1, 1) := by decide +kernel
theorem dX12_layTurns_1 : decode cX12_layTurns 1 = .ok (.istore_n 2, 1) := by decide +kernel
theorem dX12_layTurns_2 : decode cX12_layTurns 2 = .ok (.aload_n 0, 1) := by decide +kernel
theorem dX12_layTurns_3 : decode cX12_layTurns 3 = .ok (.getfield 199, 3) := by decide +kernel
theorem dX12_layTurns_6 : decode cX12_layTurns 6 = .ok (.iconst 1, 1) := by decide +kernel
theorem dX12_layTurns_7 : decode cX12_layTurns 7 = .ok (.isub, 1) := by decide +kernel
theorem dX12_layTurns_8 : decode cX12_layTurns 8 = .ok (.istore_n 3, 1) := by decide +kernel
theorem dX12_layTurns_9 : decode cX12_layTurns 9 = .ok (.iload_n 3, 1) := by decide +kernel
theorem dX12_layTurns_10 : decode cX12_layTurns 10 = .ok (.ifCond .lt 45, 3) := by decide +kernel
theorem dX12_layTurns_13 : decode cX12_layTurns 13 = .ok (.aload_n 0, 1) := by decide +kernel
theorem dX12_layTurns_14 : decode cX12_layTurns 14 = .ok (.iload_n 3, 1) := by decide +kernel
theorem dX12_layTurns_15 : decode cX12_layTurns 15 = .ok (.invokevirtual 251, 3) := by decide +kernel
theorem dX12_layTurns_18 : decode cX12_layTurns 18 = .ok (.aload_n 0, 1) := by decide +kernel
theorem dX12_layTurns_19 : decode cX12_layTurns 19 = .ok (.iload_n 3, 1) := by decide +kernel
theorem dX12_layTurns_20 : decode cX12_layTurns 20 = .ok (.invokevirtual 254, 3) := by decide +kernel
theorem dX12_layTurns_23 : decode cX12_layTurns 23 = .ok (.isub, 1) := by decide +kernel
theorem dX12_layTurns_24 : decode cX12_layTurns 24 = .ok (.iconst 1, 1) := by decide +kernel
theorem dX12_layTurns_25 : decode cX12_layTurns 25 = .ok (.iadd, 1) := by decide +kernel
theorem dX12_layTurns_26 : decode cX12_layTurns 26 = .ok (.istore 4, 2) := by decide +kernel
theorem dX12_layTurns_28 : decode cX12_layTurns 28 = .ok (.aload_n 0, 1) := by decide +kernel
theorem dX12_layTurns_29 : decode cX12_layTurns 29 = .ok (.getfield 47, 3) := by decide +kernel
theorem dX12_layTurns_32 : decode cX12_layTurns 32 = .ok (.iload_n 3, 1) := by decide +kernel
theorem dX12_layTurns_33 : decode cX12_layTurns 33 = .ok (.iload_n 2, 1) := by decide +kernel
theorem dX12_layTurns_34 : decode cX12_layTurns 34 = .ok (.iload 4, 2) := by decide +kernel
theorem dX12_layTurns_36 : decode cX12_layTurns 36 = .ok (.irem, 1) := by decide +kernel
theorem dX12_layTurns_37 : decode cX12_layTurns 37 = .ok (.aload_n 0, 1) := by decide +kernel
theorem dX12_layTurns_38 : decode cX12_layTurns 38 = .ok (.iload_n 3, 1) := by decide +kernel
theorem dX12_layTurns_39 : decode cX12_layTurns 39 = .ok (.invokevirtual 254, 3) := by decide +kernel
theorem dX12_layTurns_42 : decode cX12_layTurns 42 = .ok (.iadd, 1) := by decide +kernel
theorem dX12_layTurns_43 : decode cX12_layTurns 43 = .ok (.iastore, 1) := by decide +kernel
theorem dX12_layTurns_44 : decode cX12_layTurns 44 = .ok (.iload_n 2, 1) := by decide +kernel
theorem dX12_layTurns_45 : decode cX12_layTurns 45 = .ok (.iload 4, 2) := by decide +kernel
theorem dX12_layTurns_47 : decode cX12_layTurns 47 = .ok (.idiv, 1) := by decide +kernel
theorem dX12_layTurns_48 : decode cX12_layTurns 48 = .ok (.istore_n 2, 1) := by decide +kernel
theorem dX12_layTurns_49 : decode cX12_layTurns 49 = .ok (.iinc 3 (-1), 3) := by decide +kernel
theorem dX12_layTurns_52 : decode cX12_layTurns 52 = .ok (.goto (-43), 3) := by decide +kernel
theorem dX12_layTurns_55 : decode cX12_layTurns 55 = .ok (.return_, 1) := by decide +kernel
theorem dX12_codeNow_0 : decode cX12_codeNow 0 = .ok (.iconst 0, 1) := by decide +kernel
theorem dX12_codeNow_1 : decode cX12_codeNow 1 = .ok (.istore_n 1, 1) := by decide +kernel
theorem dX12_codeNow_2 : decode cX12_codeNow 2 = .ok (.iconst 0, 1) := by decide +kernel
theorem dX12_codeNow_3 : decode cX12_codeNow 3 = .ok (.istore_n 2, 1) := by decide +kernel
theorem dX12_codeNow_4 : decode cX12_codeNow 4 = .ok (.iload_n 2, 1) := by decide +kernel
theorem dX12_codeNow_5 : decode cX12_codeNow 5 = .ok (.aload_n 0, 1) := by decide +kernel
theorem dX12_codeNow_6 : decode cX12_codeNow 6 = .ok (.getfield 199, 3) := by decide +kernel
theorem dX12_codeNow_9 : decode cX12_codeNow 9 = .ok (.if_icmp .ge 38, 3) := by decide +kernel
theorem dX12_codeNow_12 : decode cX12_codeNow 12 = .ok (.iload_n 1, 1) := by decide +kernel
theorem dX12_codeNow_13 : decode cX12_codeNow 13 = .ok (.aload_n 0, 1) := by decide +kernel
theorem dX12_codeNow_14 : decode cX12_codeNow 14 = .ok (.iload_n 2, 1) := by decide +kernel
theorem dX12_codeNow_15 : decode cX12_codeNow 15 = .ok (.invokevirtual 251, 3) := by decide +kernel
theorem dX12_codeNow_18 : decode cX12_codeNow 18 = .ok (.aload_n 0, 1) := by decide +kernel
theorem dX12_codeNow_19 : decode cX12_codeNow 19 = .ok (.iload_n 2, 1) := by decide +kernel
theorem dX12_codeNow_20 : decode cX12_codeNow 20 = .ok (.invokevirtual 254, 3) := by decide +kernel
theorem dX12_codeNow_23 : decode cX12_codeNow 23 = .ok (.isub, 1) := by decide +kernel
theorem dX12_codeNow_24 : decode cX12_codeNow 24 = .ok (.iconst 1, 1) := by decide +kernel
theorem dX12_codeNow_25 : decode cX12_codeNow 25 = .ok (.iadd, 1) := by decide +kernel
theorem dX12_codeNow_26 : decode cX12_codeNow 26 = .ok (.imul, 1) := by decide +kernel
theorem dX12_codeNow_27 : decode cX12_codeNow 27 = .ok (.aload_n 0, 1) := by decide +kernel
theorem dX12_codeNow_28 : decode cX12_codeNow 28 = .ok (.getfield 47, 3) := by decide +kernel
theorem dX12_codeNow_31 : decode cX12_codeNow 31 = .ok (.iload_n 2, 1) := by decide +kernel
theorem dX12_codeNow_32 : decode cX12_codeNow 32 = .ok (.iaload, 1) := by decide +kernel
theorem dX12_codeNow_33 : decode cX12_codeNow 33 = .ok (.iadd, 1) := by decide +kernel
theorem dX12_codeNow_34 : decode cX12_codeNow 34 = .ok (.aload_n 0, 1) := by decide +kernel
theorem dX12_codeNow_35 : decode cX12_codeNow 35 = .ok (.iload_n 2, 1) := by decide +kernel
theorem dX12_codeNow_36 : decode cX12_codeNow 36 = .ok (.invokevirtual 254, 3) := by decide +kernel
theorem dX12_codeNow_39 : decode cX12_codeNow 39 = .ok (.isub, 1) := by decide +kernel
theorem dX12_codeNow_40 : decode cX12_codeNow 40 = .ok (.istore_n 1, 1) := by decide +kernel
theorem dX12_codeNow_41 : decode cX12_codeNow 41 = .ok (.iinc 2 1, 3) := by decide +kernel
theorem dX12_codeNow_44 : decode cX12_codeNow 44 = .ok (.goto (-40), 3) := by decide +kernel
theorem dX12_codeNow_47 : decode cX12_codeNow 47 = .ok (.iload_n 1, 1) := by decide +kernel
theorem dX12_codeNow_48 : decode cX12_codeNow 48 = .ok (.ireturn, 1) := by decide +kernel
theorem dX12_isHeld_0 : decode cX12_isHeld 0 = .ok (.aload_n 0, 1) := by decide +kernel
theorem dX12_isHeld_1 : decode cX12_isHeld 1 = .ok (.iload_n 1, 1) := by decide +kernel
theorem dX12_isHeld_2 : decode cX12_isHeld 2 = .ok (.invokevirtual 257, 3) := by decide +kernel
theorem dX12_isHeld_5 : decode cX12_isHeld 5 = .ok (.aload_n 0, 1) := by decide +kernel
theorem dX12_isHeld_6 : decode cX12_isHeld 6 = .ok (.iload_n 2, 1) := by decide +kernel
theorem dX12_isHeld_7 : decode cX12_isHeld 7 = .ok (.invokevirtual 260, 3) := by decide +kernel
theorem dX12_isHeld_10 : decode cX12_isHeld 10 = .ok (.aload_n 0, 1) := by decide +kernel
theorem dX12_isHeld_11 : decode cX12_isHeld 11 = .ok (.iload_n 2, 1) := by decide +kernel
theorem dX12_isHeld_12 : decode cX12_isHeld 12 = .ok (.invokevirtual 263, 3) := by decide +kernel
theorem dX12_isHeld_15 : decode cX12_isHeld 15 = .ok (.iconst 1, 1) := by decide +kernel
theorem dX12_isHeld_16 : decode cX12_isHeld 16 = .ok (.if_icmp .ne 7, 3) := by decide +kernel
theorem dX12_isHeld_19 : decode cX12_isHeld 19 = .ok (.iconst 1, 1) := by decide +kernel
theorem dX12_isHeld_20 : decode cX12_isHeld 20 = .ok (.goto 4, 3) := by decide +kernel
theorem dX12_isHeld_23 : decode cX12_isHeld 23 = .ok (.iconst 0, 1) := by decide +kernel
theorem dX12_isHeld_24 : decode cX12_isHeld 24 = .ok (.ireturn, 1) := by decide +kernel
theorem dX12_darken_0 : decode cX12_darken 0 = .ok (.iload_n 1, 1) := by decide +kernel
theorem dX12_darken_1 : decode cX12_darken 1 = .ok (.iload_n 2, 1) := by decide +kernel
theorem dX12_darken_2 : decode cX12_darken 2 = .ok (.invokestatic 242, 3) := by decide +kernel
theorem dX12_darken_5 : decode cX12_darken 5 = .ok (.ifCond .eq 15, 3) := by decide +kernel
theorem dX12_darken_8 : decode cX12_darken 8 = .ok (.aload_n 0, 1) := by decide +kernel
theorem dX12_darken_9 : decode cX12_darken 9 = .ok (.getfield 56, 3) := by decide +kernel
theorem dX12_darken_12 : decode cX12_darken 12 = .ok (.iload_n 2, 1) := by decide +kernel
theorem dX12_darken_13 : decode cX12_darken 13 = .ok (.dup2, 1) := by decide +kernel
theorem dX12_darken_14 : decode cX12_darken 14 = .ok (.iaload, 1) := by decide +kernel
theorem dX12_darken_15 : decode cX12_darken 15 = .ok (.iconst 1, 1) := by decide +kernel
theorem dX12_darken_16 : decode cX12_darken 16 = .ok (.iload_n 1, 1) := by decide +kernel
theorem dX12_darken_17 : decode cX12_darken 17 = .ok (.ishl, 1) := by decide +kernel
theorem dX12_darken_18 : decode cX12_darken 18 = .ok (.ior, 1) := by decide +kernel
theorem dX12_darken_19 : decode cX12_darken 19 = .ok (.iastore, 1) := by decide +kernel
theorem dX12_darken_20 : decode cX12_darken 20 = .ok (.return_, 1) := by decide +kernel
theorem dX12_layBright_0 : decode cX12_layBright 0 = .ok (.iconst 0, 1) := by decide +kernel
theorem dX12_layBright_1 : decode cX12_layBright 1 = .ok (.istore_n 1, 1) := by decide +kernel
theorem dX12_layBright_2 : decode cX12_layBright 2 = .ok (.iload_n 1, 1) := by decide +kernel
theorem dX12_layBright_3 : decode cX12_layBright 3 = .ok (.bipush 10, 2) := by decide +kernel
theorem dX12_layBright_5 : decode cX12_layBright 5 = .ok (.if_icmp .ge 16, 3) := by decide +kernel
theorem dX12_layBright_8 : decode cX12_layBright 8 = .ok (.aload_n 0, 1) := by decide +kernel
theorem dX12_layBright_9 : decode cX12_layBright 9 = .ok (.getfield 56, 3) := by decide +kernel
theorem dX12_layBright_12 : decode cX12_layBright 12 = .ok (.iload_n 1, 1) := by decide +kernel
theorem dX12_layBright_13 : decode cX12_layBright 13 = .ok (.iconst 0, 1) := by decide +kernel
theorem dX12_layBright_14 : decode cX12_layBright 14 = .ok (.iastore, 1) := by decide +kernel
theorem dX12_layBright_15 : decode cX12_layBright 15 = .ok (.iinc 1 1, 3) := by decide +kernel
theorem dX12_layBright_18 : decode cX12_layBright 18 = .ok (.goto (-16), 3) := by decide +kernel
theorem dX12_layBright_21 : decode cX12_layBright 21 = .ok (.return_, 1) := by decide +kernel
theorem dX12_darkMany_0 : decode cX12_darkMany 0 = .ok (.iconst 0, 1) := by decide +kernel
theorem dX12_darkMany_1 : decode cX12_darkMany 1 = .ok (.istore_n 1, 1) := by decide +kernel
theorem dX12_darkMany_2 : decode cX12_darkMany 2 = .ok (.iconst 0, 1) := by decide +kernel
theorem dX12_darkMany_3 : decode cX12_darkMany 3 = .ok (.istore_n 2, 1) := by decide +kernel
theorem dX12_darkMany_4 : decode cX12_darkMany 4 = .ok (.iload_n 2, 1) := by decide +kernel
theorem dX12_darkMany_5 : decode cX12_darkMany 5 = .ok (.bipush 10, 2) := by decide +kernel
theorem dX12_darkMany_7 : decode cX12_darkMany 7 = .ok (.if_icmp .ge 21, 3) := by decide +kernel
theorem dX12_darkMany_10 : decode cX12_darkMany 10 = .ok (.iload_n 1, 1) := by decide +kernel
theorem dX12_darkMany_11 : decode cX12_darkMany 11 = .ok (.aload_n 0, 1) := by decide +kernel
theorem dX12_darkMany_12 : decode cX12_darkMany 12 = .ok (.getfield 56, 3) := by decide +kernel
theorem dX12_darkMany_15 : decode cX12_darkMany 15 = .ok (.iload_n 2, 1) := by decide +kernel
theorem dX12_darkMany_16 : decode cX12_darkMany 16 = .ok (.iaload, 1) := by decide +kernel
theorem dX12_darkMany_17 : decode cX12_darkMany 17 = .ok (.invokestatic 266, 3) := by decide +kernel
theorem dX12_darkMany_20 : decode cX12_darkMany 20 = .ok (.iadd, 1) := by decide +kernel
theorem dX12_darkMany_21 : decode cX12_darkMany 21 = .ok (.istore_n 1, 1) := by decide +kernel
theorem dX12_darkMany_22 : decode cX12_darkMany 22 = .ok (.iinc 2 1, 3) := by decide +kernel
theorem dX12_darkMany_25 : decode cX12_darkMany 25 = .ok (.goto (-21), 3) := by decide +kernel
theorem dX12_darkMany_28 : decode cX12_darkMany 28 = .ok (.iload_n 1, 1) := by decide +kernel
theorem dX12_darkMany_29 : decode cX12_darkMany 29 = .ok (.ireturn, 1) := by decide +kernel
theorem dX12_layShape_0 : decode cX12_layShape 0 = .ok (.aload_n 0, 1) := by decide +kernel
theorem dX12_layShape_1 : decode cX12_layShape 1 = .ok (.invokevirtual 269, 3) := by decide +kernel
theorem dX12_layShape_4 : decode cX12_layShape 4 = .ok (.iconst 0, 1) := by decide +kernel
theorem dX12_layShape_5 : decode cX12_layShape 5 = .ok (.istore_n 1, 1) := by decide +kernel
theorem dX12_layShape_6 : decode cX12_layShape 6 = .ok (.iload_n 1, 1) := by decide +kernel
theorem dX12_layShape_7 : decode cX12_layShape 7 = .ok (.aload_n 0, 1) := by decide +kernel
theorem dX12_layShape_8 : decode cX12_layShape 8 = .ok (.getfield 225, 3) := by decide +kernel
theorem dX12_layShape_11 : decode cX12_layShape 11 = .ok (.if_icmp .ge 25, 3) := by decide +kernel
theorem dX12_layShape_14 : decode cX12_layShape 14 = .ok (.aload_n 0, 1) := by decide +kernel
theorem dX12_layShape_15 : decode cX12_layShape 15 = .ok (.aload_n 0, 1) := by decide +kernel
theorem dX12_layShape_16 : decode cX12_layShape 16 = .ok (.getfield 50, 3) := by decide +kernel
theorem dX12_layShape_19 : decode cX12_layShape 19 = .ok (.iload_n 1, 1) := by decide +kernel
theorem dX12_layShape_20 : decode cX12_layShape 20 = .ok (.iaload, 1) := by decide +kernel
theorem dX12_layShape_21 : decode cX12_layShape 21 = .ok (.aload_n 0, 1) := by decide +kernel
theorem dX12_layShape_22 : decode cX12_layShape 22 = .ok (.getfield 53, 3) := by decide +kernel
theorem dX12_layShape_25 : decode cX12_layShape 25 = .ok (.iload_n 1, 1) := by decide +kernel
theorem dX12_layShape_26 : decode cX12_layShape 26 = .ok (.iaload, 1) := by decide +kernel
theorem dX12_layShape_27 : decode cX12_layShape 27 = .ok (.invokevirtual 272, 3) := by decide +kernel
theorem dX12_layShape_30 : decode cX12_layShape 30 = .ok (.iinc 1 1, 3) := by decide +kernel
theorem dX12_layShape_33 : decode cX12_layShape 33 = .ok (.goto (-27), 3) := by decide +kernel
theorem dX12_layShape_36 : decode cX12_layShape 36 = .ok (.return_, 1) := by decide +kernel
theorem dX12_layThrown_0 : decode cX12_layThrown 0 = .ok (.aload_n 0, 1) := by decide +kernel
theorem dX12_layThrown_1 : decode cX12_layThrown 1 = .ok (.invokevirtual 269, 3) := by decide +kernel
theorem dX12_layThrown_4 : decode cX12_layThrown 4 = .ok (.iconst 0, 1) := by decide +kernel
theorem dX12_layThrown_5 : decode cX12_layThrown 5 = .ok (.istore_n 1, 1) := by decide +kernel
theorem dX12_layThrown_6 : decode cX12_layThrown 6 = .ok (.iload_n 1, 1) := by decide +kernel
theorem dX12_layThrown_7 : decode cX12_layThrown 7 = .ok (.aload_n 0, 1) := by decide +kernel
theorem dX12_layThrown_8 : decode cX12_layThrown 8 = .ok (.getfield 225, 3) := by decide +kernel
theorem dX12_layThrown_11 : decode cX12_layThrown 11 = .ok (.if_icmp .ge 109, 3) := by decide +kernel
theorem dX12_layThrown_14 : decode cX12_layThrown 14 = .ok (.aload_n 0, 1) := by decide +kernel
theorem dX12_layThrown_15 : decode cX12_layThrown 15 = .ok (.getfield 50, 3) := by decide +kernel
theorem dX12_layThrown_18 : decode cX12_layThrown 18 = .ok (.iload_n 1, 1) := by decide +kernel
theorem dX12_layThrown_19 : decode cX12_layThrown 19 = .ok (.iaload, 1) := by decide +kernel
theorem dX12_layThrown_20 : decode cX12_layThrown 20 = .ok (.aload_n 0, 1) := by decide +kernel
theorem dX12_layThrown_21 : decode cX12_layThrown 21 = .ok (.getfield 53, 3) := by decide +kernel
theorem dX12_layThrown_24 : decode cX12_layThrown 24 = .ok (.iload_n 1, 1) := by decide +kernel
theorem dX12_layThrown_25 : decode cX12_layThrown 25 = .ok (.iaload, 1) := by decide +kernel
theorem dX12_layThrown_26 : decode cX12_layThrown 26 = .ok (.invokestatic 242, 3) := by decide +kernel
theorem dX12_layThrown_29 : decode cX12_layThrown 29 = .ok (.ifCond .eq 85, 3) := by decide +kernel
theorem dX12_layThrown_32 : decode cX12_layThrown 32 = .ok (.aload_n 0, 1) := by decide +kernel
theorem dX12_layThrown_33 : decode cX12_layThrown 33 = .ok (.getfield 125, 3) := by decide +kernel
theorem dX12_layThrown_36 : decode cX12_layThrown 36 = .ok (.aload_n 0, 1) := by decide +kernel
theorem dX12_layThrown_37 : decode cX12_layThrown 37 = .ok (.getfield 50, 3) := by decide +kernel
theorem dX12_layThrown_40 : decode cX12_layThrown 40 = .ok (.iload_n 1, 1) := by decide +kernel
theorem dX12_layThrown_41 : decode cX12_layThrown 41 = .ok (.iaload, 1) := by decide +kernel
theorem dX12_layThrown_42 : decode cX12_layThrown 42 = .ok (.imul, 1) := by decide +kernel
theorem dX12_layThrown_43 : decode cX12_layThrown 43 = .ok (.aload_n 0, 1) := by decide +kernel
theorem dX12_layThrown_44 : decode cX12_layThrown 44 = .ok (.getfield 211, 3) := by decide +kernel
theorem dX12_layThrown_47 : decode cX12_layThrown 47 = .ok (.iadd, 1) := by decide +kernel
theorem dX12_layThrown_48 : decode cX12_layThrown 48 = .ok (.istore_n 2, 1) := by decide +kernel
theorem dX12_layThrown_49 : decode cX12_layThrown 49 = .ok (.aload_n 0, 1) := by decide +kernel
theorem dX12_layThrown_50 : decode cX12_layThrown 50 = .ok (.getfield 125, 3) := by decide +kernel
theorem dX12_layThrown_53 : decode cX12_layThrown 53 = .ok (.aload_n 0, 1) := by decide +kernel
theorem dX12_layThrown_54 : decode cX12_layThrown 54 = .ok (.getfield 53, 3) := by decide +kernel
theorem dX12_layThrown_57 : decode cX12_layThrown 57 = .ok (.iload_n 1, 1) := by decide +kernel
theorem dX12_layThrown_58 : decode cX12_layThrown 58 = .ok (.iaload, 1) := by decide +kernel
theorem dX12_layThrown_59 : decode cX12_layThrown 59 = .ok (.imul, 1) := by decide +kernel
theorem dX12_layThrown_60 : decode cX12_layThrown 60 = .ok (.aload_n 0, 1) := by decide +kernel
theorem dX12_layThrown_61 : decode cX12_layThrown 61 = .ok (.getfield 214, 3) := by decide +kernel
theorem dX12_layThrown_64 : decode cX12_layThrown 64 = .ok (.iadd, 1) := by decide +kernel
theorem dX12_layThrown_65 : decode cX12_layThrown 65 = .ok (.istore_n 3, 1) := by decide +kernel
theorem dX12_layThrown_66 : decode cX12_layThrown 66 = .ok (.iconst 0, 1) := by decide +kernel
theorem dX12_layThrown_67 : decode cX12_layThrown 67 = .ok (.istore 4, 2) := by decide +kernel
theorem dX12_layThrown_69 : decode cX12_layThrown 69 = .ok (.iload 4, 2) := by decide +kernel
theorem dX12_layThrown_71 : decode cX12_layThrown 71 = .ok (.aload_n 0, 1) := by decide +kernel
theorem dX12_layThrown_72 : decode cX12_layThrown 72 = .ok (.getfield 125, 3) := by decide +kernel
theorem dX12_layThrown_75 : decode cX12_layThrown 75 = .ok (.if_icmp .ge 39, 3) := by decide +kernel
theorem dX12_layThrown_78 : decode cX12_layThrown 78 = .ok (.iconst 0, 1) := by decide +kernel
theorem dX12_layThrown_79 : decode cX12_layThrown 79 = .ok (.istore 5, 2) := by decide +kernel
theorem dX12_layThrown_81 : decode cX12_layThrown 81 = .ok (.iload 5, 2) := by decide +kernel
theorem dX12_layThrown_83 : decode cX12_layThrown 83 = .ok (.aload_n 0, 1) := by decide +kernel
theorem dX12_layThrown_84 : decode cX12_layThrown 84 = .ok (.getfield 125, 3) := by decide +kernel
theorem dX12_layThrown_87 : decode cX12_layThrown 87 = .ok (.if_icmp .ge 21, 3) := by decide +kernel
theorem dX12_layThrown_90 : decode cX12_layThrown 90 = .ok (.aload_n 0, 1) := by decide +kernel
theorem dX12_layThrown_91 : decode cX12_layThrown 91 = .ok (.iload_n 2, 1) := by decide +kernel
theorem dX12_layThrown_92 : decode cX12_layThrown 92 = .ok (.iload 4, 2) := by decide +kernel
theorem dX12_layThrown_94 : decode cX12_layThrown 94 = .ok (.iadd, 1) := by decide +kernel
theorem dX12_layThrown_95 : decode cX12_layThrown 95 = .ok (.iload_n 3, 1) := by decide +kernel
theorem dX12_layThrown_96 : decode cX12_layThrown 96 = .ok (.iload 5, 2) := by decide +kernel
theorem dX12_layThrown_98 : decode cX12_layThrown 98 = .ok (.iadd, 1) := by decide +kernel
theorem dX12_layThrown_99 : decode cX12_layThrown 99 = .ok (.invokevirtual 272, 3) := by decide +kernel
theorem dX12_layThrown_102 : decode cX12_layThrown 102 = .ok (.iinc 5 1, 3) := by decide +kernel
theorem dX12_layThrown_105 : decode cX12_layThrown 105 = .ok (.goto (-24), 3) := by decide +kernel
theorem dX12_layThrown_108 : decode cX12_layThrown 108 = .ok (.iinc 4 1, 3) := by decide +kernel
theorem dX12_layThrown_111 : decode cX12_layThrown 111 = .ok (.goto (-42), 3) := by decide +kernel
theorem dX12_layThrown_114 : decode cX12_layThrown 114 = .ok (.iinc 1 1, 3) := by decide +kernel
theorem dX12_layThrown_117 : decode cX12_layThrown 117 = .ok (.goto (-111), 3) := by decide +kernel
theorem dX12_layThrown_120 : decode cX12_layThrown 120 = .ok (.return_, 1) := by decide +kernel
theorem dX12_clear_0 : decode cX12_clear 0 = .ok (.aload_n 0, 1) := by decide +kernel
theorem dX12_clear_1 : decode cX12_clear 1 = .ok (.getfield 13, 3) := by decide +kernel
theorem dX12_clear_4 : decode cX12_clear 4 = .ok (.iload_n 1, 1) := by decide +kernel
theorem dX12_clear_5 : decode cX12_clear 5 = .ok (.iload_n 2, 1) := by decide +kernel
theorem dX12_clear_6 : decode cX12_clear 6 = .ok (.iastore, 1) := by decide +kernel
theorem dX12_clear_7 : decode cX12_clear 7 = .ok (.iconst 0, 1) := by decide +kernel
theorem dX12_clear_8 : decode cX12_clear 8 = .ok (.istore_n 3, 1) := by decide +kernel
theorem dX12_clear_9 : decode cX12_clear 9 = .ok (.iload_n 3, 1) := by decide +kernel
theorem dX12_clear_10 : decode cX12_clear 10 = .ok (.bipush 40, 2) := by decide +kernel
theorem dX12_clear_12 : decode cX12_clear 12 = .ok (.if_icmp .ge 21, 3) := by decide +kernel
theorem dX12_clear_15 : decode cX12_clear 15 = .ok (.aload_n 0, 1) := by decide +kernel
theorem dX12_clear_16 : decode cX12_clear 16 = .ok (.getfield 16, 3) := by decide +kernel
theorem dX12_clear_19 : decode cX12_clear 19 = .ok (.bipush 40, 2) := by decide +kernel
theorem dX12_clear_21 : decode cX12_clear 21 = .ok (.iload_n 1, 1) := by decide +kernel
theorem dX12_clear_22 : decode cX12_clear 22 = .ok (.imul, 1) := by decide +kernel
theorem dX12_clear_23 : decode cX12_clear 23 = .ok (.iload_n 3, 1) := by decide +kernel
theorem dX12_clear_24 : decode cX12_clear 24 = .ok (.iadd, 1) := by decide +kernel
theorem dX12_clear_25 : decode cX12_clear 25 = .ok (.iconst 0, 1) := by decide +kernel
theorem dX12_clear_26 : decode cX12_clear 26 = .ok (.iastore, 1) := by decide +kernel
theorem dX12_clear_27 : decode cX12_clear 27 = .ok (.iinc 3 1, 3) := by decide +kernel
theorem dX12_clear_30 : decode cX12_clear 30 = .ok (.goto (-21), 3) := by decide +kernel
theorem dX12_clear_33 : decode cX12_clear 33 = .ok (.return_, 1) := by decide +kernel
theorem dX12_toRow_0 : decode cX12_toRow 0 = .ok (.aload_n 0, 1) := by decide +kernel
theorem dX12_toRow_1 : decode cX12_toRow 1 = .ok (.iload_n 1, 1) := by decide +kernel
theorem dX12_toRow_2 : decode cX12_toRow 2 = .ok (.bipush 10, 2) := by decide +kernel
theorem dX12_toRow_4 : decode cX12_toRow 4 = .ok (.invokevirtual 275, 3) := by decide +kernel
theorem dX12_toRow_7 : decode cX12_toRow 7 = .ok (.iconst 0, 1) := by decide +kernel
theorem dX12_toRow_8 : decode cX12_toRow 8 = .ok (.istore_n 2, 1) := by decide +kernel
theorem dX12_toRow_9 : decode cX12_toRow 9 = .ok (.iload_n 2, 1) := by decide +kernel
theorem dX12_toRow_10 : decode cX12_toRow 10 = .ok (.bipush 10, 2) := by decide +kernel
theorem dX12_toRow_12 : decode cX12_toRow 12 = .ok (.if_icmp .ge 26, 3) := by decide +kernel
theorem dX12_toRow_15 : decode cX12_toRow 15 = .ok (.aload_n 0, 1) := by decide +kernel
theorem dX12_toRow_16 : decode cX12_toRow 16 = .ok (.getfield 16, 3) := by decide +kernel
theorem dX12_toRow_19 : decode cX12_toRow 19 = .ok (.bipush 40, 2) := by decide +kernel
theorem dX12_toRow_21 : decode cX12_toRow 21 = .ok (.iload_n 1, 1) := by decide +kernel
theorem dX12_toRow_22 : decode cX12_toRow 22 = .ok (.imul, 1) := by decide +kernel
theorem dX12_toRow_23 : decode cX12_toRow 23 = .ok (.iload_n 2, 1) := by decide +kernel
theorem dX12_toRow_24 : decode cX12_toRow 24 = .ok (.iadd, 1) := by decide +kernel
theorem dX12_toRow_25 : decode cX12_toRow 25 = .ok (.aload_n 0, 1) := by decide +kernel
theorem dX12_toRow_26 : decode cX12_toRow 26 = .ok (.getfield 56, 3) := by decide +kernel
theorem dX12_toRow_29 : decode cX12_toRow 29 = .ok (.iload_n 2, 1) := by decide +kernel
theorem dX12_toRow_30 : decode cX12_toRow 30 = .ok (.iaload, 1) := by decide +kernel
theorem dX12_toRow_31 : decode cX12_toRow 31 = .ok (.iastore, 1) := by decide +kernel
theorem dX12_toRow_32 : decode cX12_toRow 32 = .ok (.iinc 2 1, 3) := by decide +kernel
theorem dX12_toRow_35 : decode cX12_toRow 35 = .ok (.goto (-26), 3) := by decide +kernel
theorem dX12_toRow_38 : decode cX12_toRow 38 = .ok (.aload_n 0, 1) := by decide +kernel
theorem dX12_toRow_39 : decode cX12_toRow 39 = .ok (.invokevirtual 278, 3) := by decide +kernel
theorem dX12_toRow_42 : decode cX12_toRow 42 = .ok (.ireturn, 1) := by decide +kernel
theorem dX12_needShadow_0 : decode cX12_needShadow 0 = .ok (.aload_n 0, 1) := by decide +kernel
theorem dX12_needShadow_1 : decode cX12_needShadow 1 = .ok (.getfield 13, 3) := by decide +kernel
theorem dX12_needShadow_4 : decode cX12_needShadow 4 = .ok (.iload_n 1, 1) := by decide +kernel
theorem dX12_needShadow_5 : decode cX12_needShadow 5 = .ok (.iaload, 1) := by decide +kernel
theorem dX12_needShadow_6 : decode cX12_needShadow 6 = .ok (.ifCond .ge 9, 3) := by decide +kernel
theorem dX12_needShadow_9 : decode cX12_needShadow 9 = .ok (.aload_n 0, 1) := by decide +kernel
theorem dX12_needShadow_10 : decode cX12_needShadow 10 = .ok (.iconst 1, 1) := by decide +kernel
theorem dX12_needShadow_11 : decode cX12_needShadow 11 = .ok (.invokevirtual 145, 3) := by decide +kernel
theorem dX12_needShadow_14 : decode cX12_needShadow 14 = .ok (.ireturn, 1) := by decide +kernel
theorem dX12_needShadow_15 : decode cX12_needShadow 15 = .ok (.aload_n 0, 1) := by decide +kernel
theorem dX12_needShadow_16 : decode cX12_needShadow 16 = .ok (.getfield 13, 3) := by decide +kernel
theorem dX12_needShadow_19 : decode cX12_needShadow 19 = .ok (.iload_n 1, 1) := by decide +kernel
theorem dX12_needShadow_20 : decode cX12_needShadow 20 = .ok (.iaload, 1) := by decide +kernel
theorem dX12_needShadow_21 : decode cX12_needShadow 21 = .ok (.bipush 10, 2) := by decide +kernel
theorem dX12_needShadow_23 : decode cX12_needShadow 23 = .ok (.if_icmp .eq 9, 3) := by decide +kernel
theorem dX12_needShadow_26 : decode cX12_needShadow 26 = .ok (.aload_n 0, 1) := by decide +kernel
theorem dX12_needShadow_27 : decode cX12_needShadow 27 = .ok (.iconst 5, 1) := by decide +kernel
theorem dX12_needShadow_28 : decode cX12_needShadow 28 = .ok (.invokevirtual 145, 3) := by decide +kernel
theorem dX12_needShadow_31 : decode cX12_needShadow 31 = .ok (.ireturn, 1) := by decide +kernel
theorem dX12_needShadow_32 : decode cX12_needShadow 32 = .ok (.iconst 1, 1) := by decide +kernel
theorem dX12_needShadow_33 : decode cX12_needShadow 33 = .ok (.istore_n 2, 1) := by decide +kernel
theorem dX12_needShadow_34 : decode cX12_needShadow 34 = .ok (.iconst 0, 1) := by decide +kernel
theorem dX12_needShadow_35 : decode cX12_needShadow 35 = .ok (.istore_n 3, 1) := by decide +kernel
theorem dX12_needShadow_36 : decode cX12_needShadow 36 = .ok (.iload_n 3, 1) := by decide +kernel
theorem dX12_needShadow_37 : decode cX12_needShadow 37 = .ok (.bipush 10, 2) := by decide +kernel
theorem dX12_needShadow_39 : decode cX12_needShadow 39 = .ok (.if_icmp .ge 35, 3) := by decide +kernel
theorem dX12_needShadow_42 : decode cX12_needShadow 42 = .ok (.iload_n 2, 1) := by decide +kernel
theorem dX12_needShadow_43 : decode cX12_needShadow 43 = .ok (.ifCond .eq 23, 3) := by decide +kernel
theorem dX12_needShadow_46 : decode cX12_needShadow 46 = .ok (.aload_n 0, 1) := by decide +kernel
theorem dX12_needShadow_47 : decode cX12_needShadow 47 = .ok (.iload_n 1, 1) := by decide +kernel
theorem dX12_needShadow_48 : decode cX12_needShadow 48 = .ok (.iload_n 3, 1) := by decide +kernel
theorem dX12_needShadow_49 : decode cX12_needShadow 49 = .ok (.invokevirtual 149, 3) := by decide +kernel
theorem dX12_needShadow_52 : decode cX12_needShadow 52 = .ok (.iconst 0, 1) := by decide +kernel
theorem dX12_needShadow_53 : decode cX12_needShadow 53 = .ok (.sipush 4095, 3) := by decide +kernel
theorem dX12_needShadow_56 : decode cX12_needShadow 56 = .ok (.invokestatic 131, 3) := by decide +kernel
theorem dX12_needShadow_59 : decode cX12_needShadow 59 = .ok (.ifCond .eq 7, 3) := by decide +kernel
theorem dX12_needShadow_62 : decode cX12_needShadow 62 = .ok (.iconst 1, 1) := by decide +kernel
theorem dX12_needShadow_63 : decode cX12_needShadow 63 = .ok (.goto 4, 3) := by decide +kernel
theorem dX12_needShadow_66 : decode cX12_needShadow 66 = .ok (.iconst 0, 1) := by decide +kernel
theorem dX12_needShadow_67 : decode cX12_needShadow 67 = .ok (.istore_n 2, 1) := by decide +kernel
theorem dX12_needShadow_68 : decode cX12_needShadow 68 = .ok (.iinc 3 1, 3) := by decide +kernel
theorem dX12_needShadow_71 : decode cX12_needShadow 71 = .ok (.goto (-35), 3) := by decide +kernel
theorem dX12_needShadow_74 : decode cX12_needShadow 74 = .ok (.iload_n 2, 1) := by decide +kernel
theorem dX12_needShadow_75 : decode cX12_needShadow 75 = .ok (.ifCond .eq 7, 3) := by decide +kernel
theorem dX12_needShadow_78 : decode cX12_needShadow 78 = .ok (.iconst 0, 1) := by decide +kernel
theorem dX12_needShadow_79 : decode cX12_needShadow 79 = .ok (.goto 8, 3) := by decide +kernel
theorem dX12_needShadow_82 : decode cX12_needShadow 82 = .ok (.aload_n 0, 1) := by decide +kernel
theorem dX12_needShadow_83 : decode cX12_needShadow 83 = .ok (.iconst 3, 1) := by decide +kernel
theorem dX12_needShadow_84 : decode cX12_needShadow 84 = .ok (.invokevirtual 145, 3) := by decide +kernel
theorem dX12_needShadow_87 : decode cX12_needShadow 87 = .ok (.ireturn, 1) := by decide +kernel
theorem dX12_isPose_0 : decode cX12_isPose 0 = .ok (.iload_n 1, 1) := by decide +kernel
theorem dX12_isPose_1 : decode cX12_isPose 1 = .ok (.iconst 0, 1) := by decide +kernel
theorem dX12_isPose_2 : decode cX12_isPose 2 = .ok (.aload_n 0, 1) := by decide +kernel
theorem dX12_isPose_3 : decode cX12_isPose 3 = .ok (.getfield 202, 3) := by decide +kernel
theorem dX12_isPose_6 : decode cX12_isPose 6 = .ok (.iconst 1, 1) := by decide +kernel
theorem dX12_isPose_7 : decode cX12_isPose 7 = .ok (.isub, 1) := by decide +kernel
theorem dX12_isPose_8 : decode cX12_isPose 8 = .ok (.invokestatic 131, 3) := by decide +kernel
theorem dX12_isPose_11 : decode cX12_isPose 11 = .ok (.ireturn, 1) := by decide +kernel
theorem dX12_kind_0 : decode cX12_kind 0 = .ok (.aload_n 0, 1) := by decide +kernel
theorem dX12_kind_1 : decode cX12_kind 1 = .ok (.getfield 59, 3) := by decide +kernel
theorem dX12_kind_4 : decode cX12_kind 4 = .ok (.iconst 3, 1) := by decide +kernel
theorem dX12_kind_5 : decode cX12_kind 5 = .ok (.iload_n 1, 1) := by decide +kernel
theorem dX12_kind_6 : decode cX12_kind 6 = .ok (.imul, 1) := by decide +kernel
theorem dX12_kind_7 : decode cX12_kind 7 = .ok (.iaload, 1) := by decide +kernel
theorem dX12_kind_8 : decode cX12_kind 8 = .ok (.ireturn, 1) := by decide +kernel
theorem dX12_isHeldPose_0 : decode cX12_isHeldPose 0 = .ok (.aload_n 0, 1) := by decide +kernel
theorem dX12_isHeldPose_1 : decode cX12_isHeldPose 1 = .ok (.iload_n 1, 1) := by decide +kernel
theorem dX12_isHeldPose_2 : decode cX12_isHeldPose 2 = .ok (.invokevirtual 281, 3) := by decide +kernel
theorem dX12_isHeldPose_5 : decode cX12_isHeldPose 5 = .ok (.iconst 1, 1) := by decide +kernel
theorem dX12_isHeldPose_6 : decode cX12_isHeldPose 6 = .ok (.if_icmp .eq 21, 3) := by decide +kernel
theorem dX12_isHeldPose_9 : decode cX12_isHeldPose 9 = .ok (.aload_n 0, 1) := by decide +kernel
theorem dX12_isHeldPose_10 : decode cX12_isHeldPose 10 = .ok (.iload_n 1, 1) := by decide +kernel
theorem dX12_isHeldPose_11 : decode cX12_isHeldPose 11 = .ok (.invokevirtual 281, 3) := by decide +kernel
theorem dX12_isHeldPose_14 : decode cX12_isHeldPose 14 = .ok (.iconst 4, 1) := by decide +kernel
theorem dX12_isHeldPose_15 : decode cX12_isHeldPose 15 = .ok (.if_icmp .eq 12, 3) := by decide +kernel
theorem dX12_isHeldPose_18 : decode cX12_isHeldPose 18 = .ok (.aload_n 0, 1) := by decide +kernel
theorem dX12_isHeldPose_19 : decode cX12_isHeldPose 19 = .ok (.iload_n 1, 1) := by decide +kernel
theorem dX12_isHeldPose_20 : decode cX12_isHeldPose 20 = .ok (.invokevirtual 281, 3) := by decide +kernel
theorem dX12_isHeldPose_23 : decode cX12_isHeldPose 23 = .ok (.iconst 5, 1) := by decide +kernel
theorem dX12_isHeldPose_24 : decode cX12_isHeldPose 24 = .ok (.if_icmp .ne 7, 3) := by decide +kernel
theorem dX12_isHeldPose_27 : decode cX12_isHeldPose 27 = .ok (.iconst 1, 1) := by decide +kernel
theorem dX12_isHeldPose_28 : decode cX12_isHeldPose 28 = .ok (.goto 4, 3) := by decide +kernel
theorem dX12_isHeldPose_31 : decode cX12_isHeldPose 31 = .ok (.iconst 0, 1) := by decide +kernel
theorem dX12_isHeldPose_32 : decode cX12_isHeldPose 32 = .ok (.ireturn, 1) := by decide +kernel
theorem dX12_layPose_0 : decode cX12_layPose 0 = .ok (.iconst 0, 1) := by decide +kernel
theorem dX12_layPose_1 : decode cX12_layPose 1 = .ok (.istore_n 2, 1) := by decide +kernel
theorem dX12_layPose_2 : decode cX12_layPose 2 = .ok (.iload_n 2, 1) := by decide +kernel
theorem dX12_layPose_3 : decode cX12_layPose 3 = .ok (.aload_n 0, 1) := by decide +kernel
theorem dX12_layPose_4 : decode cX12_layPose 4 = .ok (.getfield 199, 3) := by decide +kernel
theorem dX12_layPose_7 : decode cX12_layPose 7 = .ok (.if_icmp .ge 26, 3) := by decide +kernel
theorem dX12_layPose_10 : decode cX12_layPose 10 = .ok (.aload_n 0, 1) := by decide +kernel
theorem dX12_layPose_11 : decode cX12_layPose 11 = .ok (.getfield 47, 3) := by decide +kernel
theorem dX12_layPose_14 : decode cX12_layPose 14 = .ok (.iload_n 2, 1) := by decide +kernel
theorem dX12_layPose_15 : decode cX12_layPose 15 = .ok (.aload_n 0, 1) := by decide +kernel
theorem dX12_layPose_16 : decode cX12_layPose 16 = .ok (.getfield 62, 3) := by decide +kernel
theorem dX12_layPose_19 : decode cX12_layPose 19 = .ok (.bipush 6, 2) := by decide +kernel
theorem dX12_layPose_21 : decode cX12_layPose 21 = .ok (.iload_n 1, 1) := by decide +kernel
theorem dX12_layPose_22 : decode cX12_layPose 22 = .ok (.imul, 1) := by decide +kernel
theorem dX12_layPose_23 : decode cX12_layPose 23 = .ok (.iload_n 2, 1) := by decide +kernel
theorem dX12_layPose_24 : decode cX12_layPose 24 = .ok (.iadd, 1) := by decide +kernel
theorem dX12_layPose_25 : decode cX12_layPose 25 = .ok (.iaload, 1) := by decide +kernel
theorem dX12_layPose_26 : decode cX12_layPose 26 = .ok (.iastore, 1) := by decide +kernel
theorem dX12_layPose_27 : decode cX12_layPose 27 = .ok (.iinc 2 1, 3) := by decide +kernel
theorem dX12_layPose_30 : decode cX12_layPose 30 = .ok (.goto (-28), 3) := by decide +kernel
theorem dX12_layPose_33 : decode cX12_layPose 33 = .ok (.aload_n 0, 1) := by decide +kernel
theorem dX12_layPose_34 : decode cX12_layPose 34 = .ok (.iconst (-1), 1) := by decide +kernel
theorem dX12_layPose_35 : decode cX12_layPose 35 = .ok (.invokevirtual 260, 3) := by decide +kernel
theorem dX12_layPose_38 : decode cX12_layPose 38 = .ok (.return_, 1) := by decide +kernel
theorem dX12_greater_0 : decode cX12_greater 0 = .ok (.iload_n 0, 1) := by decide +kernel
theorem dX12_greater_1 : decode cX12_greater 1 = .ok (.iload_n 1, 1) := by decide +kernel
theorem dX12_greater_2 : decode cX12_greater 2 = .ok (.if_icmp .le 7, 3) := by decide +kernel
theorem dX12_greater_5 : decode cX12_greater 5 = .ok (.iload_n 0, 1) := by decide +kernel
theorem dX12_greater_6 : decode cX12_greater 6 = .ok (.goto 4, 3) := by decide +kernel
theorem dX12_greater_9 : decode cX12_greater 9 = .ok (.iload_n 1, 1) := by decide +kernel
theorem dX12_greater_10 : decode cX12_greater 10 = .ok (.ireturn, 1) := by decide +kernel
theorem dX12_pose_0 : decode cX12_pose 0 = .ok (.iload_n 1, 1) := by decide +kernel
theorem dX12_pose_1 : decode cX12_pose 1 = .ok (.invokestatic 141, 3) := by decide +kernel
theorem dX12_pose_4 : decode cX12_pose 4 = .ok (.ifCond .eq 17, 3) := by decide +kernel
theorem dX12_pose_7 : decode cX12_pose 7 = .ok (.iload_n 2, 1) := by decide +kernel
theorem dX12_pose_8 : decode cX12_pose 8 = .ok (.bipush (-9), 2) := by decide +kernel
theorem dX12_pose_10 : decode cX12_pose 10 = .ok (.if_icmp .eq 13, 3) := by decide +kernel
theorem dX12_pose_13 : decode cX12_pose 13 = .ok (.aload_n 0, 1) := by decide +kernel
theorem dX12_pose_14 : decode cX12_pose 14 = .ok (.iload_n 2, 1) := by decide +kernel
theorem dX12_pose_15 : decode cX12_pose 15 = .ok (.invokevirtual 208, 3) := by decide +kernel
theorem dX12_pose_18 : decode cX12_pose 18 = .ok (.ifCond .ne 5, 3) := by decide +kernel
theorem dX12_pose_21 : decode cX12_pose 21 = .ok (.iconst (-1), 1) := by decide +kernel
theorem dX12_pose_22 : decode cX12_pose 22 = .ok (.ireturn, 1) := by decide +kernel
theorem dX12_pose_23 : decode cX12_pose 23 = .ok (.aload_n 0, 1) := by decide +kernel
theorem dX12_pose_24 : decode cX12_pose 24 = .ok (.getfield 13, 3) := by decide +kernel
theorem dX12_pose_27 : decode cX12_pose 27 = .ok (.iload_n 1, 1) := by decide +kernel
theorem dX12_pose_28 : decode cX12_pose 28 = .ok (.iaload, 1) := by decide +kernel
theorem dX12_pose_29 : decode cX12_pose 29 = .ok (.ifCond .ge 9, 3) := by decide +kernel
theorem dX12_pose_32 : decode cX12_pose 32 = .ok (.aload_n 0, 1) := by decide +kernel
theorem dX12_pose_33 : decode cX12_pose 33 = .ok (.iconst 1, 1) := by decide +kernel
theorem dX12_pose_34 : decode cX12_pose 34 = .ok (.invokevirtual 145, 3) := by decide +kernel
theorem dX12_pose_37 : decode cX12_pose 37 = .ok (.ireturn, 1) := by decide +kernel
theorem dX12_pose_38 : decode cX12_pose 38 = .ok (.aload_n 0, 1) := by decide +kernel
theorem dX12_pose_39 : decode cX12_pose 39 = .ok (.getfield 13, 3) := by decide +kernel
theorem dX12_pose_42 : decode cX12_pose 42 = .ok (.iload_n 1, 1) := by decide +kernel
theorem dX12_pose_43 : decode cX12_pose 43 = .ok (.iaload, 1) := by decide +kernel
theorem dX12_pose_44 : decode cX12_pose 44 = .ok (.aload_n 0, 1) := by decide +kernel
theorem dX12_pose_45 : decode cX12_pose 45 = .ok (.getfield 199, 3) := by decide +kernel
theorem dX12_pose_48 : decode cX12_pose 48 = .ok (.if_icmp .eq 9, 3) := by decide +kernel
theorem dX12_pose_51 : decode cX12_pose 51 = .ok (.aload_n 0, 1) := by decide +kernel
theorem dX12_pose_52 : decode cX12_pose 52 = .ok (.iconst 5, 1) := by decide +kernel
theorem dX12_pose_53 : decode cX12_pose 53 = .ok (.invokevirtual 145, 3) := by decide +kernel
theorem dX12_pose_56 : decode cX12_pose 56 = .ok (.ireturn, 1) := by decide +kernel
theorem dX12_pose_57 : decode cX12_pose 57 = .ok (.iconst 1, 1) := by decide +kernel
theorem dX12_pose_58 : decode cX12_pose 58 = .ok (.istore_n 3, 1) := by decide +kernel
theorem dX12_pose_59 : decode cX12_pose 59 = .ok (.iconst 0, 1) := by decide +kernel
theorem dX12_pose_60 : decode cX12_pose 60 = .ok (.istore 4, 2) := by decide +kernel
theorem dX12_pose_62 : decode cX12_pose 62 = .ok (.iload 4, 2) := by decide +kernel
theorem dX12_pose_64 : decode cX12_pose 64 = .ok (.aload_n 0, 1) := by decide +kernel
theorem dX12_pose_65 : decode cX12_pose 65 = .ok (.getfield 199, 3) := by decide +kernel
theorem dX12_pose_68 : decode cX12_pose 68 = .ok (.if_icmp .ge 44, 3) := by decide +kernel
theorem dX12_pose_71 : decode cX12_pose 71 = .ok (.iload_n 3, 1) := by decide +kernel
theorem dX12_pose_72 : decode cX12_pose 72 = .ok (.ifCond .eq 32, 3) := by decide +kernel
theorem dX12_pose_75 : decode cX12_pose 75 = .ok (.aload_n 0, 1) := by decide +kernel
theorem dX12_pose_76 : decode cX12_pose 76 = .ok (.iload_n 1, 1) := by decide +kernel
theorem dX12_pose_77 : decode cX12_pose 77 = .ok (.iload 4, 2) := by decide +kernel
theorem dX12_pose_79 : decode cX12_pose 79 = .ok (.invokevirtual 149, 3) := by decide +kernel
theorem dX12_pose_82 : decode cX12_pose 82 = .ok (.aload_n 0, 1) := by decide +kernel
theorem dX12_pose_83 : decode cX12_pose 83 = .ok (.iload 4, 2) := by decide +kernel
theorem dX12_pose_85 : decode cX12_pose 85 = .ok (.invokevirtual 254, 3) := by decide +kernel
theorem dX12_pose_88 : decode cX12_pose 88 = .ok (.aload_n 0, 1) := by decide +kernel
theorem dX12_pose_89 : decode cX12_pose 89 = .ok (.iload 4, 2) := by decide +kernel
theorem dX12_pose_91 : decode cX12_pose 91 = .ok (.invokevirtual 251, 3) := by decide +kernel
theorem dX12_pose_94 : decode cX12_pose 94 = .ok (.invokestatic 131, 3) := by decide +kernel
theorem dX12_pose_97 : decode cX12_pose 97 = .ok (.ifCond .eq 7, 3) := by decide +kernel
theorem dX12_pose_100 : decode cX12_pose 100 = .ok (.iconst 1, 1) := by decide +kernel
theorem dX12_pose_101 : decode cX12_pose 101 = .ok (.goto 4, 3) := by decide +kernel
theorem dX12_pose_104 : decode cX12_pose 104 = .ok (.iconst 0, 1) := by decide +kernel
theorem dX12_pose_105 : decode cX12_pose 105 = .ok (.istore_n 3, 1) := by decide +kernel
theorem dX12_pose_106 : decode cX12_pose 106 = .ok (.iinc 4 1, 3) := by decide +kernel
theorem dX12_pose_109 : decode cX12_pose 109 = .ok (.goto (-47), 3) := by decide +kernel
theorem dX12_pose_112 : decode cX12_pose 112 = .ok (.iload_n 3, 1) := by decide +kernel
theorem dX12_pose_113 : decode cX12_pose 113 = .ok (.ifCond .ne 9, 3) := by decide +kernel
theorem dX12_pose_116 : decode cX12_pose 116 = .ok (.aload_n 0, 1) := by decide +kernel
theorem dX12_pose_117 : decode cX12_pose 117 = .ok (.iconst 3, 1) := by decide +kernel
theorem dX12_pose_118 : decode cX12_pose 118 = .ok (.invokevirtual 145, 3) := by decide +kernel
theorem dX12_pose_121 : decode cX12_pose 121 = .ok (.ireturn, 1) := by decide +kernel
theorem dX12_pose_122 : decode cX12_pose 122 = .ok (.iload_n 2, 1) := by decide +kernel
theorem dX12_pose_123 : decode cX12_pose 123 = .ok (.bipush (-9), 2) := by decide +kernel
theorem dX12_pose_125 : decode cX12_pose 125 = .ok (.if_icmp .eq 19, 3) := by decide +kernel
theorem dX12_pose_128 : decode cX12_pose 128 = .ok (.aload_n 0, 1) := by decide +kernel
theorem dX12_pose_129 : decode cX12_pose 129 = .ok (.iload_n 1, 1) := by decide +kernel
theorem dX12_pose_130 : decode cX12_pose 130 = .ok (.iload_n 2, 1) := by decide +kernel
theorem dX12_pose_131 : decode cX12_pose 131 = .ok (.invokevirtual 149, 3) := by decide +kernel
theorem dX12_pose_134 : decode cX12_pose 134 = .ok (.aload_n 0, 1) := by decide +kernel
theorem dX12_pose_135 : decode cX12_pose 135 = .ok (.iload_n 2, 1) := by decide +kernel
theorem dX12_pose_136 : decode cX12_pose 136 = .ok (.invokevirtual 251, 3) := by decide +kernel
theorem dX12_pose_139 : decode cX12_pose 139 = .ok (.if_icmp .ne 5, 3) := by decide +kernel
theorem dX12_pose_142 : decode cX12_pose 142 = .ok (.iconst (-1), 1) := by decide +kernel
theorem dX12_pose_143 : decode cX12_pose 143 = .ok (.ireturn, 1) := by decide +kernel
theorem dX12_pose_144 : decode cX12_pose 144 = .ok (.aload_n 0, 1) := by decide +kernel
theorem dX12_pose_145 : decode cX12_pose 145 = .ok (.getfield 202, 3) := by decide +kernel
theorem dX12_pose_148 : decode cX12_pose 148 = .ok (.bipush 12, 2) := by decide +kernel
theorem dX12_pose_150 : decode cX12_pose 150 = .ok (.if_icmp .ne 6, 3) := by decide +kernel
theorem dX12_pose_153 : decode cX12_pose 153 = .ok (.bipush (-2), 2) := by decide +kernel
theorem dX12_pose_155 : decode cX12_pose 155 = .ok (.ireturn, 1) := by decide +kernel
theorem dX12_pose_156 : decode cX12_pose 156 = .ok (.aload_n 0, 1) := by decide +kernel
theorem dX12_pose_157 : decode cX12_pose 157 = .ok (.getfield 202, 3) := by decide +kernel
theorem dX12_pose_160 : decode cX12_pose 160 = .ok (.istore 4, 2) := by decide +kernel
theorem dX12_pose_162 : decode cX12_pose 162 = .ok (.iconst 0, 1) := by decide +kernel
theorem dX12_pose_163 : decode cX12_pose 163 = .ok (.istore 5, 2) := by decide +kernel
theorem dX12_pose_165 : decode cX12_pose 165 = .ok (.iload 5, 2) := by decide +kernel
theorem dX12_pose_167 : decode cX12_pose 167 = .ok (.aload_n 0, 1) := by decide +kernel
theorem dX12_pose_168 : decode cX12_pose 168 = .ok (.getfield 199, 3) := by decide +kernel
theorem dX12_pose_171 : decode cX12_pose 171 = .ok (.if_icmp .ge 29, 3) := by decide +kernel
theorem dX12_pose_174 : decode cX12_pose 174 = .ok (.aload_n 0, 1) := by decide +kernel
theorem dX12_pose_175 : decode cX12_pose 175 = .ok (.getfield 62, 3) := by decide +kernel
theorem dX12_pose_178 : decode cX12_pose 178 = .ok (.bipush 6, 2) := by decide +kernel
theorem dX12_pose_180 : decode cX12_pose 180 = .ok (.iload 4, 2) := by decide +kernel
theorem dX12_pose_182 : decode cX12_pose 182 = .ok (.imul, 1) := by decide +kernel
theorem dX12_pose_183 : decode cX12_pose 183 = .ok (.iload 5, 2) := by decide +kernel
theorem dX12_pose_185 : decode cX12_pose 185 = .ok (.iadd, 1) := by decide +kernel
theorem dX12_pose_186 : decode cX12_pose 186 = .ok (.aload_n 0, 1) := by decide +kernel
theorem dX12_pose_187 : decode cX12_pose 187 = .ok (.iload_n 1, 1) := by decide +kernel
theorem dX12_pose_188 : decode cX12_pose 188 = .ok (.iload 5, 2) := by decide +kernel
theorem dX12_pose_190 : decode cX12_pose 190 = .ok (.invokevirtual 149, 3) := by decide +kernel
theorem dX12_pose_193 : decode cX12_pose 193 = .ok (.iastore, 1) := by decide +kernel
theorem dX12_pose_194 : decode cX12_pose 194 = .ok (.iinc 5 1, 3) := by decide +kernel
theorem dX12_pose_197 : decode cX12_pose 197 = .ok (.goto (-32), 3) := by decide +kernel
theorem dX12_pose_200 : decode cX12_pose 200 = .ok (.aload_n 0, 1) := by decide +kernel
theorem dX12_pose_201 : decode cX12_pose 201 = .ok (.iload 4, 2) := by decide +kernel
theorem dX12_pose_203 : decode cX12_pose 203 = .ok (.invokevirtual 284, 3) := by decide +kernel
theorem dX12_pose_206 : decode cX12_pose 206 = .ok (.aload_n 0, 1) := by decide +kernel
theorem dX12_pose_207 : decode cX12_pose 207 = .ok (.iconst (-1), 1) := by decide +kernel
theorem dX12_pose_208 : decode cX12_pose 208 = .ok (.invokevirtual 263, 3) := by decide +kernel
theorem dX12_pose_211 : decode cX12_pose 211 = .ok (.istore 5, 2) := by decide +kernel
theorem dX12_pose_213 : decode cX12_pose 213 = .ok (.aload_n 0, 1) := by decide +kernel
theorem dX12_pose_214 : decode cX12_pose 214 = .ok (.invokevirtual 245, 3) := by decide +kernel
theorem dX12_pose_217 : decode cX12_pose 217 = .ok (.istore 6, 2) := by decide +kernel
theorem dX12_pose_219 : decode cX12_pose 219 = .ok (.aload_n 0, 1) := by decide +kernel
theorem dX12_pose_220 : decode cX12_pose 220 = .ok (.iconst (-1), 1) := by decide +kernel
theorem dX12_pose_221 : decode cX12_pose 221 = .ok (.invokevirtual 248, 3) := by decide +kernel
theorem dX12_pose_224 : decode cX12_pose 224 = .ok (.aload_n 0, 1) := by decide +kernel
theorem dX12_pose_225 : decode cX12_pose 225 = .ok (.getfield 121, 3) := by decide +kernel
theorem dX12_pose_228 : decode cX12_pose 228 = .ok (.isub, 1) := by decide +kernel
theorem dX12_pose_229 : decode cX12_pose 229 = .ok (.istore 7, 2) := by decide +kernel
theorem dX12_pose_231 : decode cX12_pose 231 = .ok (.iload_n 2, 1) := by decide +kernel
theorem dX12_pose_232 : decode cX12_pose 232 = .ok (.bipush (-9), 2) := by decide +kernel
theorem dX12_pose_234 : decode cX12_pose 234 = .ok (.if_icmp .eq 72, 3) := by decide +kernel
theorem dX12_pose_237 : decode cX12_pose 237 = .ok (.aload_n 0, 1) := by decide +kernel
theorem dX12_pose_238 : decode cX12_pose 238 = .ok (.getfield 47, 3) := by decide +kernel
theorem dX12_pose_241 : decode cX12_pose 241 = .ok (.iload_n 2, 1) := by decide +kernel
theorem dX12_pose_242 : decode cX12_pose 242 = .ok (.dup2, 1) := by decide +kernel
theorem dX12_pose_243 : decode cX12_pose 243 = .ok (.iaload, 1) := by decide +kernel
theorem dX12_pose_244 : decode cX12_pose 244 = .ok (.iconst 1, 1) := by decide +kernel
theorem dX12_pose_245 : decode cX12_pose 245 = .ok (.iadd, 1) := by decide +kernel
theorem dX12_pose_246 : decode cX12_pose 246 = .ok (.iastore, 1) := by decide +kernel
theorem dX12_pose_247 : decode cX12_pose 247 = .ok (.aload_n 0, 1) := by decide +kernel
theorem dX12_pose_248 : decode cX12_pose 248 = .ok (.iconst (-1), 1) := by decide +kernel
theorem dX12_pose_249 : decode cX12_pose 249 = .ok (.invokevirtual 260, 3) := by decide +kernel
theorem dX12_pose_252 : decode cX12_pose 252 = .ok (.iload 5, 2) := by decide +kernel
theorem dX12_pose_254 : decode cX12_pose 254 = .ok (.aload_n 0, 1) := by decide +kernel
theorem dX12_pose_255 : decode cX12_pose 255 = .ok (.iconst (-1), 1) := by decide +kernel
theorem dX12_pose_256 : decode cX12_pose 256 = .ok (.invokevirtual 263, 3) := by decide +kernel
theorem dX12_pose_259 : decode cX12_pose 259 = .ok (.invokestatic 287, 3) := by decide +kernel
theorem dX12_pose_262 : decode cX12_pose 262 = .ok (.istore 5, 2) := by decide +kernel
theorem dX12_pose_264 : decode cX12_pose 264 = .ok (.iload 5, 2) := by decide +kernel
theorem dX12_pose_266 : decode cX12_pose 266 = .ok (.iconst 1, 1) := by decide +kernel
theorem dX12_pose_267 : decode cX12_pose 267 = .ok (.if_icmp .ne 7, 3) := by decide +kernel
theorem dX12_pose_270 : decode cX12_pose 270 = .ok (.iconst 4, 1) := by decide +kernel
theorem dX12_pose_271 : decode cX12_pose 271 = .ok (.goto 5, 3) := by decide +kernel
theorem dX12_pose_274 : decode cX12_pose 274 = .ok (.iload 5, 2) := by decide +kernel
theorem dX12_pose_276 : decode cX12_pose 276 = .ok (.istore 5, 2) := by decide +kernel
theorem dX12_pose_278 : decode cX12_pose 278 = .ok (.iload 6, 2) := by decide +kernel
theorem dX12_pose_280 : decode cX12_pose 280 = .ok (.aload_n 0, 1) := by decide +kernel
theorem dX12_pose_281 : decode cX12_pose 281 = .ok (.invokevirtual 245, 3) := by decide +kernel
theorem dX12_pose_284 : decode cX12_pose 284 = .ok (.invokestatic 287, 3) := by decide +kernel
theorem dX12_pose_287 : decode cX12_pose 287 = .ok (.istore 6, 2) := by decide +kernel
theorem dX12_pose_289 : decode cX12_pose 289 = .ok (.iload 7, 2) := by decide +kernel
theorem dX12_pose_291 : decode cX12_pose 291 = .ok (.aload_n 0, 1) := by decide +kernel
theorem dX12_pose_292 : decode cX12_pose 292 = .ok (.iconst (-1), 1) := by decide +kernel
theorem dX12_pose_293 : decode cX12_pose 293 = .ok (.invokevirtual 248, 3) := by decide +kernel
theorem dX12_pose_296 : decode cX12_pose 296 = .ok (.aload_n 0, 1) := by decide +kernel
theorem dX12_pose_297 : decode cX12_pose 297 = .ok (.getfield 121, 3) := by decide +kernel
theorem dX12_pose_300 : decode cX12_pose 300 = .ok (.isub, 1) := by decide +kernel
theorem dX12_pose_301 : decode cX12_pose 301 = .ok (.invokestatic 287, 3) := by decide +kernel
theorem dX12_pose_304 : decode cX12_pose 304 = .ok (.istore 7, 2) := by decide +kernel
theorem dX12_pose_306 : decode cX12_pose 306 = .ok (.aload_n 0, 1) := by decide +kernel
theorem dX12_pose_307 : decode cX12_pose 307 = .ok (.getfield 59, 3) := by decide +kernel
theorem dX12_pose_310 : decode cX12_pose 310 = .ok (.iconst 3, 1) := by decide +kernel
theorem dX12_pose_311 : decode cX12_pose 311 = .ok (.iload 4, 2) := by decide +kernel
theorem dX12_pose_313 : decode cX12_pose 313 = .ok (.imul, 1) := by decide +kernel
theorem dX12_pose_314 : decode cX12_pose 314 = .ok (.iload 5, 2) := by decide +kernel
theorem dX12_pose_316 : decode cX12_pose 316 = .ok (.iastore, 1) := by decide +kernel
theorem dX12_pose_317 : decode cX12_pose 317 = .ok (.aload_n 0, 1) := by decide +kernel
theorem dX12_pose_318 : decode cX12_pose 318 = .ok (.getfield 59, 3) := by decide +kernel
theorem dX12_pose_321 : decode cX12_pose 321 = .ok (.iconst 3, 1) := by decide +kernel
theorem dX12_pose_322 : decode cX12_pose 322 = .ok (.iload 4, 2) := by decide +kernel
theorem dX12_pose_324 : decode cX12_pose 324 = .ok (.imul, 1) := by decide +kernel
theorem dX12_pose_325 : decode cX12_pose 325 = .ok (.iconst 1, 1) := by decide +kernel
theorem dX12_pose_326 : decode cX12_pose 326 = .ok (.iadd, 1) := by decide +kernel
theorem dX12_pose_327 : decode cX12_pose 327 = .ok (.iload_n 2, 1) := by decide +kernel
theorem dX12_pose_328 : decode cX12_pose 328 = .ok (.iastore, 1) := by decide +kernel
theorem dX12_pose_329 : decode cX12_pose 329 = .ok (.aload_n 0, 1) := by decide +kernel
theorem dX12_pose_330 : decode cX12_pose 330 = .ok (.getfield 59, 3) := by decide +kernel
theorem dX12_pose_333 : decode cX12_pose 333 = .ok (.iconst 3, 1) := by decide +kernel
theorem dX12_pose_334 : decode cX12_pose 334 = .ok (.iload 4, 2) := by decide +kernel
theorem dX12_pose_336 : decode cX12_pose 336 = .ok (.imul, 1) := by decide +kernel
theorem dX12_pose_337 : decode cX12_pose 337 = .ok (.iconst 2, 1) := by decide +kernel
theorem dX12_pose_338 : decode cX12_pose 338 = .ok (.iadd, 1) := by decide +kernel
theorem dX12_pose_339 : decode cX12_pose 339 = .ok (.iload 5, 2) := by decide +kernel
theorem dX12_pose_341 : decode cX12_pose 341 = .ok (.iconst 3, 1) := by decide +kernel
theorem dX12_pose_342 : decode cX12_pose 342 = .ok (.if_icmp .ne 8, 3) := by decide +kernel
theorem dX12_pose_345 : decode cX12_pose 345 = .ok (.iload 6, 2) := by decide +kernel
theorem dX12_pose_347 : decode cX12_pose 347 = .ok (.goto 5, 3) := by decide +kernel
theorem dX12_pose_350 : decode cX12_pose 350 = .ok (.iload 7, 2) := by decide +kernel
theorem dX12_pose_352 : decode cX12_pose 352 = .ok (.iastore, 1) := by decide +kernel
theorem dX12_pose_353 : decode cX12_pose 353 = .ok (.iconst 0, 1) := by decide +kernel
theorem dX12_pose_354 : decode cX12_pose 354 = .ok (.istore 8, 2) := by decide +kernel
theorem dX12_pose_356 : decode cX12_pose 356 = .ok (.iload 8, 2) := by decide +kernel
theorem dX12_pose_358 : decode cX12_pose 358 = .ok (.bipush 10, 2) := by decide +kernel
theorem dX12_pose_360 : decode cX12_pose 360 = .ok (.if_icmp .ge 23, 3) := by decide +kernel
theorem dX12_pose_363 : decode cX12_pose 363 = .ok (.aload_n 0, 1) := by decide +kernel
theorem dX12_pose_364 : decode cX12_pose 364 = .ok (.getfield 65, 3) := by decide +kernel
theorem dX12_pose_367 : decode cX12_pose 367 = .ok (.bipush 10, 2) := by decide +kernel
theorem dX12_pose_369 : decode cX12_pose 369 = .ok (.iload 4, 2) := by decide +kernel
theorem dX12_pose_371 : decode cX12_pose 371 = .ok (.imul, 1) := by decide +kernel
theorem dX12_pose_372 : decode cX12_pose 372 = .ok (.iload 8, 2) := by decide +kernel
theorem dX12_pose_374 : decode cX12_pose 374 = .ok (.iadd, 1) := by decide +kernel
theorem dX12_pose_375 : decode cX12_pose 375 = .ok (.iconst 0, 1) := by decide +kernel
theorem dX12_pose_376 : decode cX12_pose 376 = .ok (.iastore, 1) := by decide +kernel
theorem dX12_pose_377 : decode cX12_pose 377 = .ok (.iinc 8 1, 3) := by decide +kernel
theorem dX12_pose_380 : decode cX12_pose 380 = .ok (.goto (-24), 3) := by decide +kernel
theorem dX12_pose_383 : decode cX12_pose 383 = .ok (.aload_n 0, 1) := by decide +kernel
theorem dX12_pose_384 : decode cX12_pose 384 = .ok (.dup, 1) := by decide +kernel
theorem dX12_pose_385 : decode cX12_pose 385 = .ok (.getfield 202, 3) := by decide +kernel
theorem dX12_pose_388 : decode cX12_pose 388 = .ok (.iconst 1, 1) := by decide +kernel
theorem dX12_pose_389 : decode cX12_pose 389 = .ok (.iadd, 1) := by decide +kernel
theorem dX12_pose_390 : decode cX12_pose 390 = .ok (.putfield 202, 3) := by decide +kernel
theorem dX12_pose_393 : decode cX12_pose 393 = .ok (.aload_n 0, 1) := by decide +kernel
theorem dX12_pose_394 : decode cX12_pose 394 = .ok (.iload 5, 2) := by decide +kernel
theorem dX12_pose_396 : decode cX12_pose 396 = .ok (.iload 4, 2) := by decide +kernel
theorem dX12_pose_398 : decode cX12_pose 398 = .ok (.invokevirtual 153, 3) := by decide +kernel
theorem dX12_pose_401 : decode cX12_pose 401 = .ok (.ireturn, 1) := by decide +kernel
theorem dX12_cardMany_0 : decode cX12_cardMany 0 = .ok (.iconst 0, 1) := by decide +kernel
theorem dX12_cardMany_1 : decode cX12_cardMany 1 = .ok (.istore_n 2, 1) := by decide +kernel
theorem dX12_cardMany_2 : decode cX12_cardMany 2 = .ok (.iconst 0, 1) := by decide +kernel
theorem dX12_cardMany_3 : decode cX12_cardMany 3 = .ok (.istore_n 3, 1) := by decide +kernel
theorem dX12_cardMany_4 : decode cX12_cardMany 4 = .ok (.iload_n 3, 1) := by decide +kernel
theorem dX12_cardMany_5 : decode cX12_cardMany 5 = .ok (.bipush 10, 2) := by decide +kernel
theorem dX12_cardMany_7 : decode cX12_cardMany 7 = .ok (.if_icmp .ge 26, 3) := by decide +kernel
theorem dX12_cardMany_10 : decode cX12_cardMany 10 = .ok (.iload_n 2, 1) := by decide +kernel
theorem dX12_cardMany_11 : decode cX12_cardMany 11 = .ok (.aload_n 0, 1) := by decide +kernel
theorem dX12_cardMany_12 : decode cX12_cardMany 12 = .ok (.getfield 65, 3) := by decide +kernel
theorem dX12_cardMany_15 : decode cX12_cardMany 15 = .ok (.bipush 10, 2) := by decide +kernel
theorem dX12_cardMany_17 : decode cX12_cardMany 17 = .ok (.iload_n 1, 1) := by decide +kernel
theorem dX12_cardMany_18 : decode cX12_cardMany 18 = .ok (.imul, 1) := by decide +kernel
theorem dX12_cardMany_19 : decode cX12_cardMany 19 = .ok (.iload_n 3, 1) := by decide +kernel
theorem dX12_cardMany_20 : decode cX12_cardMany 20 = .ok (.iadd, 1) := by decide +kernel
theorem dX12_cardMany_21 : decode cX12_cardMany 21 = .ok (.iaload, 1) := by decide +kernel
theorem dX12_cardMany_22 : decode cX12_cardMany 22 = .ok (.invokestatic 266, 3) := by decide +kernel
theorem dX12_cardMany_25 : decode cX12_cardMany 25 = .ok (.iadd, 1) := by decide +kernel
theorem dX12_cardMany_26 : decode cX12_cardMany 26 = .ok (.istore_n 2, 1) := by decide +kernel
theorem dX12_cardMany_27 : decode cX12_cardMany 27 = .ok (.iinc 3 1, 3) := by decide +kernel
theorem dX12_cardMany_30 : decode cX12_cardMany 30 = .ok (.goto (-26), 3) := by decide +kernel
theorem dX12_cardMany_33 : decode cX12_cardMany 33 = .ok (.iload_n 2, 1) := by decide +kernel
theorem dX12_cardMany_34 : decode cX12_cardMany 34 = .ok (.ireturn, 1) := by decide +kernel
theorem dX12_help_0 : decode cX12_help 0 = .ok (.aload_n 0, 1) := by decide +kernel
theorem dX12_help_1 : decode cX12_help 1 = .ok (.iload_n 1, 1) := by decide +kernel
theorem dX12_help_2 : decode cX12_help 2 = .ok (.invokevirtual 290, 3) := by decide +kernel
theorem dX12_help_5 : decode cX12_help 5 = .ok (.ifCond .eq 10, 3) := by decide +kernel
theorem dX12_help_8 : decode cX12_help 8 = .ok (.iload_n 2, 1) := by decide +kernel
theorem dX12_help_9 : decode cX12_help 9 = .ok (.invokestatic 141, 3) := by decide +kernel
theorem dX12_help_12 : decode cX12_help 12 = .ok (.ifCond .ne 5, 3) := by decide +kernel
theorem dX12_help_15 : decode cX12_help 15 = .ok (.iconst (-1), 1) := by decide +kernel
theorem dX12_help_16 : decode cX12_help 16 = .ok (.ireturn, 1) := by decide +kernel
theorem dX12_help_17 : decode cX12_help 17 = .ok (.aload_n 0, 1) := by decide +kernel
theorem dX12_help_18 : decode cX12_help 18 = .ok (.iload_n 1, 1) := by decide +kernel
theorem dX12_help_19 : decode cX12_help 19 = .ok (.invokevirtual 293, 3) := by decide +kernel
theorem dX12_help_22 : decode cX12_help 22 = .ok (.ifCond .ne 9, 3) := by decide +kernel
theorem dX12_help_25 : decode cX12_help 25 = .ok (.aload_n 0, 1) := by decide +kernel
theorem dX12_help_26 : decode cX12_help 26 = .ok (.iconst 3, 1) := by decide +kernel
theorem dX12_help_27 : decode cX12_help 27 = .ok (.invokevirtual 145, 3) := by decide +kernel
theorem dX12_help_30 : decode cX12_help 30 = .ok (.ireturn, 1) := by decide +kernel
theorem dX12_help_31 : decode cX12_help 31 = .ok (.aload_n 0, 1) := by decide +kernel
theorem dX12_help_32 : decode cX12_help 32 = .ok (.iload_n 2, 1) := by decide +kernel
theorem dX12_help_33 : decode cX12_help 33 = .ok (.invokevirtual 296, 3) := by decide +kernel
theorem dX12_help_36 : decode cX12_help 36 = .ok (.istore_n 3, 1) := by decide +kernel
theorem dX12_help_37 : decode cX12_help 37 = .ok (.iload_n 3, 1) := by decide +kernel
theorem dX12_help_38 : decode cX12_help 38 = .ok (.ifCond .ge 5, 3) := by decide +kernel
theorem dX12_help_41 : decode cX12_help 41 = .ok (.iload_n 3, 1) := by decide +kernel
theorem dX12_help_42 : decode cX12_help 42 = .ok (.ireturn, 1) := by decide +kernel
theorem dX12_help_43 : decode cX12_help 43 = .ok (.iconst 0, 1) := by decide +kernel
theorem dX12_help_44 : decode cX12_help 44 = .ok (.istore 4, 2) := by decide +kernel
theorem dX12_help_46 : decode cX12_help 46 = .ok (.iload 4, 2) := by decide +kernel
theorem dX12_help_48 : decode cX12_help 48 = .ok (.bipush 10, 2) := by decide +kernel
theorem dX12_help_50 : decode cX12_help 50 = .ok (.if_icmp .ge 28, 3) := by decide +kernel
theorem dX12_help_53 : decode cX12_help 53 = .ok (.aload_n 0, 1) := by decide +kernel
theorem dX12_help_54 : decode cX12_help 54 = .ok (.getfield 65, 3) := by decide +kernel
theorem dX12_help_57 : decode cX12_help 57 = .ok (.bipush 10, 2) := by decide +kernel
theorem dX12_help_59 : decode cX12_help 59 = .ok (.iload_n 1, 1) := by decide +kernel
theorem dX12_help_60 : decode cX12_help 60 = .ok (.imul, 1) := by decide +kernel
theorem dX12_help_61 : decode cX12_help 61 = .ok (.iload 4, 2) := by decide +kernel
theorem dX12_help_63 : decode cX12_help 63 = .ok (.iadd, 1) := by decide +kernel
theorem dX12_help_64 : decode cX12_help 64 = .ok (.aload_n 0, 1) := by decide +kernel
theorem dX12_help_65 : decode cX12_help 65 = .ok (.iload_n 2, 1) := by decide +kernel
theorem dX12_help_66 : decode cX12_help 66 = .ok (.iload 4, 2) := by decide +kernel
theorem dX12_help_68 : decode cX12_help 68 = .ok (.invokevirtual 149, 3) := by decide +kernel
theorem dX12_help_71 : decode cX12_help 71 = .ok (.iastore, 1) := by decide +kernel
theorem dX12_help_72 : decode cX12_help 72 = .ok (.iinc 4 1, 3) := by decide +kernel
theorem dX12_help_75 : decode cX12_help 75 = .ok (.goto (-29), 3) := by decide +kernel
theorem dX12_help_78 : decode cX12_help 78 = .ok (.aload_n 0, 1) := by decide +kernel
theorem dX12_help_79 : decode cX12_help 79 = .ok (.getfield 59, 3) := by decide +kernel
theorem dX12_help_82 : decode cX12_help 82 = .ok (.iconst 3, 1) := by decide +kernel
theorem dX12_help_83 : decode cX12_help 83 = .ok (.iload_n 1, 1) := by decide +kernel
theorem dX12_help_84 : decode cX12_help 84 = .ok (.imul, 1) := by decide +kernel
theorem dX12_help_85 : decode cX12_help 85 = .ok (.iconst 5, 1) := by decide +kernel
theorem dX12_help_86 : decode cX12_help 86 = .ok (.iastore, 1) := by decide +kernel
theorem dX12_help_87 : decode cX12_help 87 = .ok (.aload_n 0, 1) := by decide +kernel
theorem dX12_help_88 : decode cX12_help 88 = .ok (.getfield 59, 3) := by decide +kernel
theorem dX12_help_91 : decode cX12_help 91 = .ok (.iconst 3, 1) := by decide +kernel
theorem dX12_help_92 : decode cX12_help 92 = .ok (.iload_n 1, 1) := by decide +kernel
theorem dX12_help_93 : decode cX12_help 93 = .ok (.imul, 1) := by decide +kernel
theorem dX12_help_94 : decode cX12_help 94 = .ok (.iconst 1, 1) := by decide +kernel
theorem dX12_help_95 : decode cX12_help 95 = .ok (.iadd, 1) := by decide +kernel
theorem dX12_help_96 : decode cX12_help 96 = .ok (.bipush (-9), 2) := by decide +kernel
theorem dX12_help_98 : decode cX12_help 98 = .ok (.iastore, 1) := by decide +kernel
theorem dX12_help_99 : decode cX12_help 99 = .ok (.aload_n 0, 1) := by decide +kernel
theorem dX12_help_100 : decode cX12_help 100 = .ok (.iload_n 1, 1) := by decide +kernel
theorem dX12_help_101 : decode cX12_help 101 = .ok (.invokevirtual 299, 3) := by decide +kernel
theorem dX12_help_104 : decode cX12_help 104 = .ok (.ireturn, 1) := by decide +kernel
theorem dX12_back_0 : decode cX12_back 0 = .ok (.iload_n 1, 1) := by decide +kernel
theorem dX12_back_1 : decode cX12_back 1 = .ok (.iconst 0, 1) := by decide +kernel
theorem dX12_back_2 : decode cX12_back 2 = .ok (.aload_n 0, 1) := by decide +kernel
theorem dX12_back_3 : decode cX12_back 3 = .ok (.getfield 202, 3) := by decide +kernel
theorem dX12_back_6 : decode cX12_back 6 = .ok (.invokestatic 131, 3) := by decide +kernel
theorem dX12_back_9 : decode cX12_back 9 = .ok (.ifCond .ne 5, 3) := by decide +kernel
theorem dX12_back_12 : decode cX12_back 12 = .ok (.iconst (-1), 1) := by decide +kernel
theorem dX12_back_13 : decode cX12_back 13 = .ok (.ireturn, 1) := by decide +kernel
theorem dX12_back_14 : decode cX12_back 14 = .ok (.aload_n 0, 1) := by decide +kernel
theorem dX12_back_15 : decode cX12_back 15 = .ok (.getfield 202, 3) := by decide +kernel
theorem dX12_back_18 : decode cX12_back 18 = .ok (.iload_n 1, 1) := by decide +kernel
theorem dX12_back_19 : decode cX12_back 19 = .ok (.isub, 1) := by decide +kernel
theorem dX12_back_20 : decode cX12_back 20 = .ok (.istore_n 2, 1) := by decide +kernel
theorem dX12_back_21 : decode cX12_back 21 = .ok (.iconst 0, 1) := by decide +kernel
theorem dX12_back_22 : decode cX12_back 22 = .ok (.istore_n 3, 1) := by decide +kernel
theorem dX12_back_23 : decode cX12_back 23 = .ok (.iconst 0, 1) := by decide +kernel
theorem dX12_back_24 : decode cX12_back 24 = .ok (.istore 4, 2) := by decide +kernel
theorem dX12_back_26 : decode cX12_back 26 = .ok (.iload 4, 2) := by decide +kernel
theorem dX12_back_28 : decode cX12_back 28 = .ok (.aload_n 0, 1) := by decide +kernel
theorem dX12_back_29 : decode cX12_back 29 = .ok (.getfield 205, 3) := by decide +kernel
theorem dX12_back_32 : decode cX12_back 32 = .ok (.if_icmp .ge 65, 3) := by decide +kernel
theorem dX12_back_35 : decode cX12_back 35 = .ok (.aload_n 0, 1) := by decide +kernel
theorem dX12_back_36 : decode cX12_back 36 = .ok (.getfield 114, 3) := by decide +kernel
theorem dX12_back_39 : decode cX12_back 39 = .ok (.iconst 3, 1) := by decide +kernel
theorem dX12_back_40 : decode cX12_back 40 = .ok (.iload 4, 2) := by decide +kernel
theorem dX12_back_42 : decode cX12_back 42 = .ok (.imul, 1) := by decide +kernel
theorem dX12_back_43 : decode cX12_back 43 = .ok (.iconst 1, 1) := by decide +kernel
theorem dX12_back_44 : decode cX12_back 44 = .ok (.iadd, 1) := by decide +kernel
theorem dX12_back_45 : decode cX12_back 45 = .ok (.iaload, 1) := by decide +kernel
theorem dX12_back_46 : decode cX12_back 46 = .ok (.iload_n 1, 1) := by decide +kernel
theorem dX12_back_47 : decode cX12_back 47 = .ok (.if_icmp .ge 44, 3) := by decide +kernel
theorem dX12_back_50 : decode cX12_back 50 = .ok (.iconst 0, 1) := by decide +kernel
theorem dX12_back_51 : decode cX12_back 51 = .ok (.istore 5, 2) := by decide +kernel
theorem dX12_back_53 : decode cX12_back 53 = .ok (.iload 5, 2) := by decide +kernel
theorem dX12_back_55 : decode cX12_back 55 = .ok (.iconst 3, 1) := by decide +kernel
theorem dX12_back_56 : decode cX12_back 56 = .ok (.if_icmp .ge 32, 3) := by decide +kernel
theorem dX12_back_59 : decode cX12_back 59 = .ok (.aload_n 0, 1) := by decide +kernel
theorem dX12_back_60 : decode cX12_back 60 = .ok (.getfield 114, 3) := by decide +kernel
theorem dX12_back_63 : decode cX12_back 63 = .ok (.iconst 3, 1) := by decide +kernel
theorem dX12_back_64 : decode cX12_back 64 = .ok (.iload_n 3, 1) := by decide +kernel
theorem dX12_back_65 : decode cX12_back 65 = .ok (.imul, 1) := by decide +kernel
theorem dX12_back_66 : decode cX12_back 66 = .ok (.iload 5, 2) := by decide +kernel
theorem dX12_back_68 : decode cX12_back 68 = .ok (.iadd, 1) := by decide +kernel
theorem dX12_back_69 : decode cX12_back 69 = .ok (.aload_n 0, 1) := by decide +kernel
theorem dX12_back_70 : decode cX12_back 70 = .ok (.getfield 114, 3) := by decide +kernel
theorem dX12_back_73 : decode cX12_back 73 = .ok (.iconst 3, 1) := by decide +kernel
theorem dX12_back_74 : decode cX12_back 74 = .ok (.iload 4, 2) := by decide +kernel
theorem dX12_back_76 : decode cX12_back 76 = .ok (.imul, 1) := by decide +kernel
theorem dX12_back_77 : decode cX12_back 77 = .ok (.iload 5, 2) := by decide +kernel
theorem dX12_back_79 : decode cX12_back 79 = .ok (.iadd, 1) := by decide +kernel
theorem dX12_back_80 : decode cX12_back 80 = .ok (.iaload, 1) := by decide +kernel
theorem dX12_back_81 : decode cX12_back 81 = .ok (.iastore, 1) := by decide +kernel
theorem dX12_back_82 : decode cX12_back 82 = .ok (.iinc 5 1, 3) := by decide +kernel
theorem dX12_back_85 : decode cX12_back 85 = .ok (.goto (-32), 3) := by decide +kernel
theorem dX12_back_88 : decode cX12_back 88 = .ok (.iinc 3 1, 3) := by decide +kernel
theorem dX12_back_91 : decode cX12_back 91 = .ok (.iinc 4 1, 3) := by decide +kernel
theorem dX12_back_94 : decode cX12_back 94 = .ok (.goto (-68), 3) := by decide +kernel
theorem dX12_back_97 : decode cX12_back 97 = .ok (.aload_n 0, 1) := by decide +kernel
theorem dX12_back_98 : decode cX12_back 98 = .ok (.iload_n 3, 1) := by decide +kernel
theorem dX12_back_99 : decode cX12_back 99 = .ok (.putfield 205, 3) := by decide +kernel
theorem dX12_back_102 : decode cX12_back 102 = .ok (.aload_n 0, 1) := by decide +kernel
theorem dX12_back_103 : decode cX12_back 103 = .ok (.iload_n 1, 1) := by decide +kernel
theorem dX12_back_104 : decode cX12_back 104 = .ok (.putfield 202, 3) := by decide +kernel
theorem dX12_back_107 : decode cX12_back 107 = .ok (.iload_n 2, 1) := by decide +kernel
theorem dX12_back_108 : decode cX12_back 108 = .ok (.ireturn, 1) := by decide +kernel
theorem dX12_aboutPose_0 : decode cX12_aboutPose 0 = .ok (.iload_n 2, 1) := by decide +kernel
theorem dX12_aboutPose_1 : decode cX12_aboutPose 1 = .ok (.iconst 1, 1) := by decide +kernel
theorem dX12_aboutPose_2 : decode cX12_aboutPose 2 = .ok (.if_icmp .ne 14, 3) := by decide +kernel
theorem dX12_aboutPose_5 : decode cX12_aboutPose 5 = .ok (.aload_n 0, 1) := by decide +kernel
theorem dX12_aboutPose_6 : decode cX12_aboutPose 6 = .ok (.iload_n 1, 1) := by decide +kernel
theorem dX12_aboutPose_7 : decode cX12_aboutPose 7 = .ok (.invokevirtual 284, 3) := by decide +kernel
theorem dX12_aboutPose_10 : decode cX12_aboutPose 10 = .ok (.aload_n 0, 1) := by decide +kernel
theorem dX12_aboutPose_11 : decode cX12_aboutPose 11 = .ok (.iconst (-1), 1) := by decide +kernel
theorem dX12_aboutPose_12 : decode cX12_aboutPose 12 = .ok (.invokevirtual 248, 3) := by decide +kernel
theorem dX12_aboutPose_15 : decode cX12_aboutPose 15 = .ok (.ireturn, 1) := by decide +kernel
theorem dX12_aboutPose_16 : decode cX12_aboutPose 16 = .ok (.iload_n 2, 1) := by decide +kernel
theorem dX12_aboutPose_17 : decode cX12_aboutPose 17 = .ok (.ifCond .ne 11, 3) := by decide +kernel
theorem dX12_aboutPose_20 : decode cX12_aboutPose 20 = .ok (.aload_n 0, 1) := by decide +kernel
theorem dX12_aboutPose_21 : decode cX12_aboutPose 21 = .ok (.iload_n 1, 1) := by decide +kernel
theorem dX12_aboutPose_22 : decode cX12_aboutPose 22 = .ok (.invokevirtual 281, 3) := by decide +kernel
theorem dX12_aboutPose_25 : decode cX12_aboutPose 25 = .ok (.goto 13, 3) := by decide +kernel
theorem dX12_aboutPose_28 : decode cX12_aboutPose 28 = .ok (.aload_n 0, 1) := by decide +kernel
theorem dX12_aboutPose_29 : decode cX12_aboutPose 29 = .ok (.getfield 59, 3) := by decide +kernel
theorem dX12_aboutPose_32 : decode cX12_aboutPose 32 = .ok (.iconst 3, 1) := by decide +kernel
theorem dX12_aboutPose_33 : decode cX12_aboutPose 33 = .ok (.iload_n 1, 1) := by decide +kernel
theorem dX12_aboutPose_34 : decode cX12_aboutPose 34 = .ok (.imul, 1) := by decide +kernel
theorem dX12_aboutPose_35 : decode cX12_aboutPose 35 = .ok (.iconst 1, 1) := by decide +kernel
theorem dX12_aboutPose_36 : decode cX12_aboutPose 36 = .ok (.iadd, 1) := by decide +kernel
theorem dX12_aboutPose_37 : decode cX12_aboutPose 37 = .ok (.iaload, 1) := by decide +kernel
theorem dX12_aboutPose_38 : decode cX12_aboutPose 38 = .ok (.ireturn, 1) := by decide +kernel
theorem dX12_about_0 : decode cX12_about 0 = .ok (.aload_n 0, 1) := by decide +kernel
theorem dX12_about_1 : decode cX12_about 1 = .ok (.iload_n 1, 1) := by decide +kernel
theorem dX12_about_2 : decode cX12_about 2 = .ok (.invokevirtual 290, 3) := by decide +kernel
theorem dX12_about_5 : decode cX12_about 5 = .ok (.ifCond .eq 26, 3) := by decide +kernel
theorem dX12_about_8 : decode cX12_about 8 = .ok (.iload_n 2, 1) := by decide +kernel
theorem dX12_about_9 : decode cX12_about 9 = .ok (.iconst 0, 1) := by decide +kernel
theorem dX12_about_10 : decode cX12_about 10 = .ok (.iconst 2, 1) := by decide +kernel
theorem dX12_about_11 : decode cX12_about 11 = .ok (.invokestatic 131, 3) := by decide +kernel
theorem dX12_about_14 : decode cX12_about 14 = .ok (.ifCond .eq 17, 3) := by decide +kernel
theorem dX12_about_17 : decode cX12_about 17 = .ok (.aload_n 0, 1) := by decide +kernel
theorem dX12_about_18 : decode cX12_about 18 = .ok (.aload_n 0, 1) := by decide +kernel
theorem dX12_about_19 : decode cX12_about 19 = .ok (.iload_n 1, 1) := by decide +kernel
theorem dX12_about_20 : decode cX12_about 20 = .ok (.iload_n 2, 1) := by decide +kernel
theorem dX12_about_21 : decode cX12_about 21 = .ok (.invokevirtual 302, 3) := by decide +kernel
theorem dX12_about_24 : decode cX12_about 24 = .ok (.iconst 1, 1) := by decide +kernel
theorem dX12_about_25 : decode cX12_about 25 = .ok (.invokevirtual 153, 3) := by decide +kernel
theorem dX12_about_28 : decode cX12_about 28 = .ok (.goto 4, 3) := by decide +kernel
theorem dX12_about_31 : decode cX12_about 31 = .ok (.iconst (-1), 1) := by decide +kernel
theorem dX12_about_32 : decode cX12_about 32 = .ok (.ireturn, 1) := by decide +kernel
theorem dX12_turn_0 : decode cX12_turn 0 = .ok (.aload_n 0, 1) := by decide +kernel
theorem dX12_turn_1 : decode cX12_turn 1 = .ok (.iload_n 1, 1) := by decide +kernel
theorem dX12_turn_2 : decode cX12_turn 2 = .ok (.invokevirtual 290, 3) := by decide +kernel
theorem dX12_turn_5 : decode cX12_turn 5 = .ok (.ifCond .eq 30, 3) := by decide +kernel
theorem dX12_turn_8 : decode cX12_turn 8 = .ok (.aload_n 0, 1) := by decide +kernel
theorem dX12_turn_9 : decode cX12_turn 9 = .ok (.iload_n 2, 1) := by decide +kernel
theorem dX12_turn_10 : decode cX12_turn 10 = .ok (.invokevirtual 208, 3) := by decide +kernel
theorem dX12_turn_13 : decode cX12_turn 13 = .ok (.ifCond .eq 22, 3) := by decide +kernel
theorem dX12_turn_16 : decode cX12_turn 16 = .ok (.aload_n 0, 1) := by decide +kernel
theorem dX12_turn_17 : decode cX12_turn 17 = .ok (.aload_n 0, 1) := by decide +kernel
theorem dX12_turn_18 : decode cX12_turn 18 = .ok (.getfield 62, 3) := by decide +kernel
theorem dX12_turn_21 : decode cX12_turn 21 = .ok (.bipush 6, 2) := by decide +kernel
theorem dX12_turn_23 : decode cX12_turn 23 = .ok (.iload_n 1, 1) := by decide +kernel
theorem dX12_turn_24 : decode cX12_turn 24 = .ok (.imul, 1) := by decide +kernel
theorem dX12_turn_25 : decode cX12_turn 25 = .ok (.iload_n 2, 1) := by decide +kernel
theorem dX12_turn_26 : decode cX12_turn 26 = .ok (.iadd, 1) := by decide +kernel
theorem dX12_turn_27 : decode cX12_turn 27 = .ok (.iaload, 1) := by decide +kernel
theorem dX12_turn_28 : decode cX12_turn 28 = .ok (.iconst 1, 1) := by decide +kernel
theorem dX12_turn_29 : decode cX12_turn 29 = .ok (.invokevirtual 153, 3) := by decide +kernel
theorem dX12_turn_32 : decode cX12_turn 32 = .ok (.goto 4, 3) := by decide +kernel
theorem dX12_turn_35 : decode cX12_turn 35 = .ok (.iconst (-1), 1) := by decide +kernel
theorem dX12_turn_36 : decode cX12_turn 36 = .ok (.ireturn, 1) := by decide +kernel
theorem dX12_mark_0 : decode cX12_mark 0 = .ok (.aload_n 0, 1) := by decide +kernel
theorem dX12_mark_1 : decode cX12_mark 1 = .ok (.iload_n 1, 1) := by decide +kernel
theorem dX12_mark_2 : decode cX12_mark 2 = .ok (.invokevirtual 290, 3) := by decide +kernel
theorem dX12_mark_5 : decode cX12_mark 5 = .ok (.ifCond .eq 12, 3) := by decide +kernel
theorem dX12_mark_8 : decode cX12_mark 8 = .ok (.iload_n 2, 1) := by decide +kernel
theorem dX12_mark_9 : decode cX12_mark 9 = .ok (.iconst 1, 1) := by decide +kernel
theorem dX12_mark_10 : decode cX12_mark 10 = .ok (.iconst 5, 1) := by decide +kernel
theorem dX12_mark_11 : decode cX12_mark 11 = .ok (.invokestatic 131, 3) := by decide +kernel
theorem dX12_mark_14 : decode cX12_mark 14 = .ok (.ifCond .ne 5, 3) := by decide +kernel
theorem dX12_mark_17 : decode cX12_mark 17 = .ok (.iconst (-1), 1) := by decide +kernel
theorem dX12_mark_18 : decode cX12_mark 18 = .ok (.ireturn, 1) := by decide +kernel
theorem dX12_mark_19 : decode cX12_mark 19 = .ok (.aload_n 0, 1) := by decide +kernel
theorem dX12_mark_20 : decode cX12_mark 20 = .ok (.iload_n 1, 1) := by decide +kernel
theorem dX12_mark_21 : decode cX12_mark 21 = .ok (.invokevirtual 281, 3) := by decide +kernel
theorem dX12_mark_24 : decode cX12_mark 24 = .ok (.iload_n 2, 1) := by decide +kernel
theorem dX12_mark_25 : decode cX12_mark 25 = .ok (.if_icmp .eq 22, 3) := by decide +kernel
theorem dX12_mark_28 : decode cX12_mark 28 = .ok (.iload_n 2, 1) := by decide +kernel
theorem dX12_mark_29 : decode cX12_mark 29 = .ok (.iconst 1, 1) := by decide +kernel
theorem dX12_mark_30 : decode cX12_mark 30 = .ok (.if_icmp .ne 11, 3) := by decide +kernel
theorem dX12_mark_33 : decode cX12_mark 33 = .ok (.aload_n 0, 1) := by decide +kernel
theorem dX12_mark_34 : decode cX12_mark 34 = .ok (.iload_n 1, 1) := by decide +kernel
theorem dX12_mark_35 : decode cX12_mark 35 = .ok (.invokevirtual 293, 3) := by decide +kernel
theorem dX12_mark_38 : decode cX12_mark 38 = .ok (.ifCond .ne 9, 3) := by decide +kernel
theorem dX12_mark_41 : decode cX12_mark 41 = .ok (.aload_n 0, 1) := by decide +kernel
theorem dX12_mark_42 : decode cX12_mark 42 = .ok (.iconst 3, 1) := by decide +kernel
theorem dX12_mark_43 : decode cX12_mark 43 = .ok (.invokevirtual 145, 3) := by decide +kernel
theorem dX12_mark_46 : decode cX12_mark 46 = .ok (.ireturn, 1) := by decide +kernel
theorem dX12_mark_47 : decode cX12_mark 47 = .ok (.iload_n 2, 1) := by decide +kernel
theorem dX12_mark_48 : decode cX12_mark 48 = .ok (.tableswitch 63 1 5 #[36, 63, 63, 46, 57], 36) := by decide +kernel
theorem dX12_mark_84 : decode cX12_mark 84 = .ok (.aload_n 0, 1) := by decide +kernel
theorem dX12_mark_85 : decode cX12_mark 85 = .ok (.iload_n 1, 1) := by decide +kernel
theorem dX12_mark_86 : decode cX12_mark 86 = .ok (.invokevirtual 284, 3) := by decide +kernel
theorem dX12_mark_89 : decode cX12_mark 89 = .ok (.aload_n 0, 1) := by decide +kernel
theorem dX12_mark_90 : decode cX12_mark 90 = .ok (.getfield 225, 3) := by decide +kernel
theorem dX12_mark_93 : decode cX12_mark 93 = .ok (.ireturn, 1) := by decide +kernel
theorem dX12_mark_94 : decode cX12_mark 94 = .ok (.aload_n 0, 1) := by decide +kernel
theorem dX12_mark_95 : decode cX12_mark 95 = .ok (.getfield 59, 3) := by decide +kernel
theorem dX12_mark_98 : decode cX12_mark 98 = .ok (.iconst 3, 1) := by decide +kernel
theorem dX12_mark_99 : decode cX12_mark 99 = .ok (.iload_n 1, 1) := by decide +kernel
theorem dX12_mark_100 : decode cX12_mark 100 = .ok (.imul, 1) := by decide +kernel
theorem dX12_mark_101 : decode cX12_mark 101 = .ok (.iconst 1, 1) := by decide +kernel
theorem dX12_mark_102 : decode cX12_mark 102 = .ok (.iadd, 1) := by decide +kernel
theorem dX12_mark_103 : decode cX12_mark 103 = .ok (.iaload, 1) := by decide +kernel
theorem dX12_mark_104 : decode cX12_mark 104 = .ok (.ireturn, 1) := by decide +kernel
theorem dX12_mark_105 : decode cX12_mark 105 = .ok (.aload_n 0, 1) := by decide +kernel
theorem dX12_mark_106 : decode cX12_mark 106 = .ok (.iload_n 1, 1) := by decide +kernel
theorem dX12_mark_107 : decode cX12_mark 107 = .ok (.invokevirtual 299, 3) := by decide +kernel
theorem dX12_mark_110 : decode cX12_mark 110 = .ok (.ireturn, 1) := by decide +kernel
theorem dX12_mark_111 : decode cX12_mark 111 = .ok (.aload_n 0, 1) := by decide +kernel
theorem dX12_mark_112 : decode cX12_mark 112 = .ok (.getfield 59, 3) := by decide +kernel
theorem dX12_mark_115 : decode cX12_mark 115 = .ok (.iconst 3, 1) := by decide +kernel
theorem dX12_mark_116 : decode cX12_mark 116 = .ok (.iload_n 1, 1) := by decide +kernel
theorem dX12_mark_117 : decode cX12_mark 117 = .ok (.imul, 1) := by decide +kernel
theorem dX12_mark_118 : decode cX12_mark 118 = .ok (.iconst 2, 1) := by decide +kernel
theorem dX12_mark_119 : decode cX12_mark 119 = .ok (.iadd, 1) := by decide +kernel
theorem dX12_mark_120 : decode cX12_mark 120 = .ok (.iaload, 1) := by decide +kernel
theorem dX12_mark_121 : decode cX12_mark 121 = .ok (.ireturn, 1) := by decide +kernel
theorem dX12_shape_0 : decode cX12_shape 0 = .ok (.aload_n 0, 1) := by decide +kernel
theorem dX12_shape_1 : decode cX12_shape 1 = .ok (.iload_n 1, 1) := by decide +kernel
theorem dX12_shape_2 : decode cX12_shape 2 = .ok (.invokevirtual 290, 3) := by decide +kernel
theorem dX12_shape_5 : decode cX12_shape 5 = .ok (.ifCond .eq 10, 3) := by decide +kernel
theorem dX12_shape_8 : decode cX12_shape 8 = .ok (.iload_n 2, 1) := by decide +kernel
theorem dX12_shape_9 : decode cX12_shape 9 = .ok (.invokestatic 141, 3) := by decide +kernel
theorem dX12_shape_12 : decode cX12_shape 12 = .ok (.ifCond .ne 5, 3) := by decide +kernel
theorem dX12_shape_15 : decode cX12_shape 15 = .ok (.iconst (-1), 1) := by decide +kernel
theorem dX12_shape_16 : decode cX12_shape 16 = .ok (.ireturn, 1) := by decide +kernel
theorem dX12_shape_17 : decode cX12_shape 17 = .ok (.aload_n 0, 1) := by decide +kernel
theorem dX12_shape_18 : decode cX12_shape 18 = .ok (.iload_n 1, 1) := by decide +kernel
theorem dX12_shape_19 : decode cX12_shape 19 = .ok (.invokevirtual 284, 3) := by decide +kernel
theorem dX12_shape_22 : decode cX12_shape 22 = .ok (.aload_n 0, 1) := by decide +kernel
theorem dX12_shape_23 : decode cX12_shape 23 = .ok (.invokevirtual 305, 3) := by decide +kernel
theorem dX12_shape_26 : decode cX12_shape 26 = .ok (.aload_n 0, 1) := by decide +kernel
theorem dX12_shape_27 : decode cX12_shape 27 = .ok (.iload_n 2, 1) := by decide +kernel
theorem dX12_shape_28 : decode cX12_shape 28 = .ok (.invokevirtual 308, 3) := by decide +kernel
theorem dX12_shape_31 : decode cX12_shape 31 = .ok (.ireturn, 1) := by decide +kernel
theorem dX12_throwPose_0 : decode cX12_throwPose 0 = .ok (.aload_n 0, 1) := by decide +kernel
theorem dX12_throwPose_1 : decode cX12_throwPose 1 = .ok (.iload_n 1, 1) := by decide +kernel
theorem dX12_throwPose_2 : decode cX12_throwPose 2 = .ok (.invokevirtual 284, 3) := by decide +kernel
theorem dX12_throwPose_5 : decode cX12_throwPose 5 = .ok (.aload_n 0, 1) := by decide +kernel
theorem dX12_throwPose_6 : decode cX12_throwPose 6 = .ok (.invokevirtual 311, 3) := by decide +kernel
theorem dX12_throwPose_9 : decode cX12_throwPose 9 = .ok (.iconst 0, 1) := by decide +kernel
theorem dX12_throwPose_10 : decode cX12_throwPose 10 = .ok (.istore_n 2, 1) := by decide +kernel
theorem dX12_throwPose_11 : decode cX12_throwPose 11 = .ok (.iload_n 2, 1) := by decide +kernel
theorem dX12_throwPose_12 : decode cX12_throwPose 12 = .ok (.bipush 10, 2) := by decide +kernel
theorem dX12_throwPose_14 : decode cX12_throwPose 14 = .ok (.if_icmp .ge 38, 3) := by decide +kernel
theorem dX12_throwPose_17 : decode cX12_throwPose 17 = .ok (.aload_n 0, 1) := by decide +kernel
theorem dX12_throwPose_18 : decode cX12_throwPose 18 = .ok (.iload_n 1, 1) := by decide +kernel
theorem dX12_throwPose_19 : decode cX12_throwPose 19 = .ok (.invokevirtual 281, 3) := by decide +kernel
theorem dX12_throwPose_22 : decode cX12_throwPose 22 = .ok (.iconst 5, 1) := by decide +kernel
theorem dX12_throwPose_23 : decode cX12_throwPose 23 = .ok (.if_icmp .ne 29, 3) := by decide +kernel
theorem dX12_throwPose_26 : decode cX12_throwPose 26 = .ok (.aload_n 0, 1) := by decide +kernel
theorem dX12_throwPose_27 : decode cX12_throwPose 27 = .ok (.getfield 56, 3) := by decide +kernel
theorem dX12_throwPose_30 : decode cX12_throwPose 30 = .ok (.iload_n 2, 1) := by decide +kernel
theorem dX12_throwPose_31 : decode cX12_throwPose 31 = .ok (.dup2, 1) := by decide +kernel
theorem dX12_throwPose_32 : decode cX12_throwPose 32 = .ok (.iaload, 1) := by decide +kernel
theorem dX12_throwPose_33 : decode cX12_throwPose 33 = .ok (.aload_n 0, 1) := by decide +kernel
theorem dX12_throwPose_34 : decode cX12_throwPose 34 = .ok (.getfield 65, 3) := by decide +kernel
theorem dX12_throwPose_37 : decode cX12_throwPose 37 = .ok (.bipush 10, 2) := by decide +kernel
theorem dX12_throwPose_39 : decode cX12_throwPose 39 = .ok (.iload_n 1, 1) := by decide +kernel
theorem dX12_throwPose_40 : decode cX12_throwPose 40 = .ok (.imul, 1) := by decide +kernel
theorem dX12_throwPose_41 : decode cX12_throwPose 41 = .ok (.iload_n 2, 1) := by decide +kernel
theorem dX12_throwPose_42 : decode cX12_throwPose 42 = .ok (.iadd, 1) := by decide +kernel
theorem dX12_throwPose_43 : decode cX12_throwPose 43 = .ok (.iaload, 1) := by decide +kernel
theorem dX12_throwPose_44 : decode cX12_throwPose 44 = .ok (.ior, 1) := by decide +kernel
theorem dX12_throwPose_45 : decode cX12_throwPose 45 = .ok (.iastore, 1) := by decide +kernel
theorem dX12_throwPose_46 : decode cX12_throwPose 46 = .ok (.iinc 2 1, 3) := by decide +kernel
theorem dX12_throwPose_49 : decode cX12_throwPose 49 = .ok (.goto (-38), 3) := by decide +kernel
theorem dX12_throwPose_52 : decode cX12_throwPose 52 = .ok (.return_, 1) := by decide +kernel
theorem dX12_thrown_0 : decode cX12_thrown 0 = .ok (.aload_n 0, 1) := by decide +kernel
theorem dX12_thrown_1 : decode cX12_thrown 1 = .ok (.iload_n 1, 1) := by decide +kernel
theorem dX12_thrown_2 : decode cX12_thrown 2 = .ok (.invokevirtual 290, 3) := by decide +kernel
theorem dX12_thrown_5 : decode cX12_thrown 5 = .ok (.ifCond .eq 10, 3) := by decide +kernel
theorem dX12_thrown_8 : decode cX12_thrown 8 = .ok (.iload_n 2, 1) := by decide +kernel
theorem dX12_thrown_9 : decode cX12_thrown 9 = .ok (.invokestatic 141, 3) := by decide +kernel
theorem dX12_thrown_12 : decode cX12_thrown 12 = .ok (.ifCond .ne 5, 3) := by decide +kernel
theorem dX12_thrown_15 : decode cX12_thrown 15 = .ok (.iconst (-1), 1) := by decide +kernel
theorem dX12_thrown_16 : decode cX12_thrown 16 = .ok (.ireturn, 1) := by decide +kernel
theorem dX12_thrown_17 : decode cX12_thrown 17 = .ok (.aload_n 0, 1) := by decide +kernel
theorem dX12_thrown_18 : decode cX12_thrown 18 = .ok (.iload_n 1, 1) := by decide +kernel
theorem dX12_thrown_19 : decode cX12_thrown 19 = .ok (.invokevirtual 314, 3) := by decide +kernel
theorem dX12_thrown_22 : decode cX12_thrown 22 = .ok (.aload_n 0, 1) := by decide +kernel
theorem dX12_thrown_23 : decode cX12_thrown 23 = .ok (.iload_n 2, 1) := by decide +kernel
theorem dX12_thrown_24 : decode cX12_thrown 24 = .ok (.invokevirtual 308, 3) := by decide +kernel
theorem dX12_thrown_27 : decode cX12_thrown 27 = .ok (.ireturn, 1) := by decide +kernel
theorem dX12_isBeast_0 : decode cX12_isBeast 0 = .ok (.iload_n 0, 1) := by decide +kernel
theorem dX12_isBeast_1 : decode cX12_isBeast 1 = .ok (.iconst 0, 1) := by decide +kernel
theorem dX12_isBeast_2 : decode cX12_isBeast 2 = .ok (.iconst 5, 1) := by decide +kernel
theorem dX12_isBeast_3 : decode cX12_isBeast 3 = .ok (.invokestatic 131, 3) := by decide +kernel
theorem dX12_isBeast_6 : decode cX12_isBeast 6 = .ok (.ireturn, 1) := by decide +kernel
theorem dX12_beast_0 : decode cX12_beast 0 = .ok (.iload_n 1, 1) := by decide +kernel
theorem dX12_beast_1 : decode cX12_beast 1 = .ok (.invokestatic 317, 3) := by decide +kernel
theorem dX12_beast_4 : decode cX12_beast 4 = .ok (.ifCond .eq 27, 3) := by decide +kernel
theorem dX12_beast_7 : decode cX12_beast 7 = .ok (.iload_n 2, 1) := by decide +kernel
theorem dX12_beast_8 : decode cX12_beast 8 = .ok (.invokestatic 141, 3) := by decide +kernel
theorem dX12_beast_11 : decode cX12_beast 11 = .ok (.ifCond .eq 20, 3) := by decide +kernel
theorem dX12_beast_14 : decode cX12_beast 14 = .ok (.iload_n 3, 1) := by decide +kernel
theorem dX12_beast_15 : decode cX12_beast 15 = .ok (.invokestatic 141, 3) := by decide +kernel
theorem dX12_beast_18 : decode cX12_beast 18 = .ok (.ifCond .eq 13, 3) := by decide +kernel
theorem dX12_beast_21 : decode cX12_beast 21 = .ok (.iload 4, 2) := by decide +kernel
theorem dX12_beast_23 : decode cX12_beast 23 = .ok (.iconst 0, 1) := by decide +kernel
theorem dX12_beast_24 : decode cX12_beast 24 = .ok (.iconst 1, 1) := by decide +kernel
theorem dX12_beast_25 : decode cX12_beast 25 = .ok (.invokestatic 131, 3) := by decide +kernel
theorem dX12_beast_28 : decode cX12_beast 28 = .ok (.ifCond .ne 5, 3) := by decide +kernel
theorem dX12_beast_31 : decode cX12_beast 31 = .ok (.iconst (-1), 1) := by decide +kernel
theorem dX12_beast_32 : decode cX12_beast 32 = .ok (.ireturn, 1) := by decide +kernel
theorem dX12_beast_33 : decode cX12_beast 33 = .ok (.aload_n 0, 1) := by decide +kernel
theorem dX12_beast_34 : decode cX12_beast 34 = .ok (.getfield 13, 3) := by decide +kernel
theorem dX12_beast_37 : decode cX12_beast 37 = .ok (.iload_n 2, 1) := by decide +kernel
theorem dX12_beast_38 : decode cX12_beast 38 = .ok (.iaload, 1) := by decide +kernel
theorem dX12_beast_39 : decode cX12_beast 39 = .ok (.ifCond .lt 12, 3) := by decide +kernel
theorem dX12_beast_42 : decode cX12_beast 42 = .ok (.aload_n 0, 1) := by decide +kernel
theorem dX12_beast_43 : decode cX12_beast 43 = .ok (.getfield 13, 3) := by decide +kernel
theorem dX12_beast_46 : decode cX12_beast 46 = .ok (.iload_n 3, 1) := by decide +kernel
theorem dX12_beast_47 : decode cX12_beast 47 = .ok (.iaload, 1) := by decide +kernel
theorem dX12_beast_48 : decode cX12_beast 48 = .ok (.ifCond .ge 9, 3) := by decide +kernel
theorem dX12_beast_51 : decode cX12_beast 51 = .ok (.aload_n 0, 1) := by decide +kernel
theorem dX12_beast_52 : decode cX12_beast 52 = .ok (.iconst 1, 1) := by decide +kernel
theorem dX12_beast_53 : decode cX12_beast 53 = .ok (.invokevirtual 145, 3) := by decide +kernel
theorem dX12_beast_56 : decode cX12_beast 56 = .ok (.ireturn, 1) := by decide +kernel
theorem dX12_beast_57 : decode cX12_beast 57 = .ok (.aload_n 0, 1) := by decide +kernel
theorem dX12_beast_58 : decode cX12_beast 58 = .ok (.getfield 13, 3) := by decide +kernel
theorem dX12_beast_61 : decode cX12_beast 61 = .ok (.iload_n 2, 1) := by decide +kernel
theorem dX12_beast_62 : decode cX12_beast 62 = .ok (.iaload, 1) := by decide +kernel
theorem dX12_beast_63 : decode cX12_beast 63 = .ok (.bipush 10, 2) := by decide +kernel
theorem dX12_beast_65 : decode cX12_beast 65 = .ok (.if_icmp .ne 14, 3) := by decide +kernel
theorem dX12_beast_68 : decode cX12_beast 68 = .ok (.aload_n 0, 1) := by decide +kernel
theorem dX12_beast_69 : decode cX12_beast 69 = .ok (.getfield 13, 3) := by decide +kernel
theorem dX12_beast_72 : decode cX12_beast 72 = .ok (.iload_n 3, 1) := by decide +kernel
theorem dX12_beast_73 : decode cX12_beast 73 = .ok (.iaload, 1) := by decide +kernel
theorem dX12_beast_74 : decode cX12_beast 74 = .ok (.bipush 10, 2) := by decide +kernel
theorem dX12_beast_76 : decode cX12_beast 76 = .ok (.if_icmp .eq 9, 3) := by decide +kernel
theorem dX12_beast_79 : decode cX12_beast 79 = .ok (.aload_n 0, 1) := by decide +kernel
theorem dX12_beast_80 : decode cX12_beast 80 = .ok (.iconst 5, 1) := by decide +kernel
theorem dX12_beast_81 : decode cX12_beast 81 = .ok (.invokevirtual 145, 3) := by decide +kernel
theorem dX12_beast_84 : decode cX12_beast 84 = .ok (.ireturn, 1) := by decide +kernel
theorem dX12_beast_85 : decode cX12_beast 85 = .ok (.iconst 1, 1) := by decide +kernel
theorem dX12_beast_86 : decode cX12_beast 86 = .ok (.istore 5, 2) := by decide +kernel
theorem dX12_beast_88 : decode cX12_beast 88 = .ok (.iconst 0, 1) := by decide +kernel
theorem dX12_beast_89 : decode cX12_beast 89 = .ok (.istore 6, 2) := by decide +kernel
theorem dX12_beast_91 : decode cX12_beast 91 = .ok (.iload 6, 2) := by decide +kernel
theorem dX12_beast_93 : decode cX12_beast 93 = .ok (.bipush 10, 2) := by decide +kernel
theorem dX12_beast_95 : decode cX12_beast 95 = .ok (.if_icmp .ge 55, 3) := by decide +kernel
theorem dX12_beast_98 : decode cX12_beast 98 = .ok (.iload 5, 2) := by decide +kernel
theorem dX12_beast_100 : decode cX12_beast 100 = .ok (.ifCond .eq 41, 3) := by decide +kernel
theorem dX12_beast_103 : decode cX12_beast 103 = .ok (.aload_n 0, 1) := by decide +kernel
theorem dX12_beast_104 : decode cX12_beast 104 = .ok (.iload_n 2, 1) := by decide +kernel
theorem dX12_beast_105 : decode cX12_beast 105 = .ok (.iload 6, 2) := by decide +kernel
theorem dX12_beast_107 : decode cX12_beast 107 = .ok (.invokevirtual 149, 3) := by decide +kernel
theorem dX12_beast_110 : decode cX12_beast 110 = .ok (.iconst 0, 1) := by decide +kernel
theorem dX12_beast_111 : decode cX12_beast 111 = .ok (.sipush 4095, 3) := by decide +kernel
theorem dX12_beast_114 : decode cX12_beast 114 = .ok (.invokestatic 131, 3) := by decide +kernel
theorem dX12_beast_117 : decode cX12_beast 117 = .ok (.ifCond .eq 24, 3) := by decide +kernel
theorem dX12_beast_120 : decode cX12_beast 120 = .ok (.aload_n 0, 1) := by decide +kernel
theorem dX12_beast_121 : decode cX12_beast 121 = .ok (.iload_n 3, 1) := by decide +kernel
theorem dX12_beast_122 : decode cX12_beast 122 = .ok (.iload 6, 2) := by decide +kernel
theorem dX12_beast_124 : decode cX12_beast 124 = .ok (.invokevirtual 149, 3) := by decide +kernel
theorem dX12_beast_127 : decode cX12_beast 127 = .ok (.iconst 0, 1) := by decide +kernel
theorem dX12_beast_128 : decode cX12_beast 128 = .ok (.sipush 4095, 3) := by decide +kernel
theorem dX12_beast_131 : decode cX12_beast 131 = .ok (.invokestatic 131, 3) := by decide +kernel
theorem dX12_beast_134 : decode cX12_beast 134 = .ok (.ifCond .eq 7, 3) := by decide +kernel
theorem dX12_beast_137 : decode cX12_beast 137 = .ok (.iconst 1, 1) := by decide +kernel
theorem dX12_beast_138 : decode cX12_beast 138 = .ok (.goto 4, 3) := by decide +kernel
theorem dX12_beast_141 : decode cX12_beast 141 = .ok (.iconst 0, 1) := by decide +kernel
theorem dX12_beast_142 : decode cX12_beast 142 = .ok (.istore 5, 2) := by decide +kernel
theorem dX12_beast_144 : decode cX12_beast 144 = .ok (.iinc 6 1, 3) := by decide +kernel
theorem dX12_beast_147 : decode cX12_beast 147 = .ok (.goto (-56), 3) := by decide +kernel
theorem dX12_beast_150 : decode cX12_beast 150 = .ok (.iload 5, 2) := by decide +kernel
theorem dX12_beast_152 : decode cX12_beast 152 = .ok (.ifCond .ne 9, 3) := by decide +kernel
theorem dX12_beast_155 : decode cX12_beast 155 = .ok (.aload_n 0, 1) := by decide +kernel
theorem dX12_beast_156 : decode cX12_beast 156 = .ok (.iconst 3, 1) := by decide +kernel
theorem dX12_beast_157 : decode cX12_beast 157 = .ok (.invokevirtual 145, 3) := by decide +kernel
theorem dX12_beast_160 : decode cX12_beast 160 = .ok (.ireturn, 1) := by decide +kernel
theorem dX12_beast_161 : decode cX12_beast 161 = .ok (.iconst 0, 1) := by decide +kernel
theorem dX12_beast_162 : decode cX12_beast 162 = .ok (.istore 6, 2) := by decide +kernel
theorem dX12_beast_164 : decode cX12_beast 164 = .ok (.iconst 0, 1) := by decide +kernel
theorem dX12_beast_165 : decode cX12_beast 165 = .ok (.istore 7, 2) := by decide +kernel
theorem dX12_beast_167 : decode cX12_beast 167 = .ok (.iload 7, 2) := by decide +kernel
theorem dX12_beast_169 : decode cX12_beast 169 = .ok (.bipush 10, 2) := by decide +kernel
theorem dX12_beast_171 : decode cX12_beast 171 = .ok (.if_icmp .ge 62, 3) := by decide +kernel
theorem dX12_beast_174 : decode cX12_beast 174 = .ok (.aload_n 0, 1) := by decide +kernel
theorem dX12_beast_175 : decode cX12_beast 175 = .ok (.getfield 72, 3) := by decide +kernel
theorem dX12_beast_178 : decode cX12_beast 178 = .ok (.bipush 10, 2) := by decide +kernel
theorem dX12_beast_180 : decode cX12_beast 180 = .ok (.iload_n 1, 1) := by decide +kernel
theorem dX12_beast_181 : decode cX12_beast 181 = .ok (.imul, 1) := by decide +kernel
theorem dX12_beast_182 : decode cX12_beast 182 = .ok (.iload 7, 2) := by decide +kernel
theorem dX12_beast_184 : decode cX12_beast 184 = .ok (.iadd, 1) := by decide +kernel
theorem dX12_beast_185 : decode cX12_beast 185 = .ok (.aload_n 0, 1) := by decide +kernel
theorem dX12_beast_186 : decode cX12_beast 186 = .ok (.iload_n 2, 1) := by decide +kernel
theorem dX12_beast_187 : decode cX12_beast 187 = .ok (.iload 7, 2) := by decide +kernel
theorem dX12_beast_189 : decode cX12_beast 189 = .ok (.invokevirtual 149, 3) := by decide +kernel
theorem dX12_beast_192 : decode cX12_beast 192 = .ok (.iastore, 1) := by decide +kernel
theorem dX12_beast_193 : decode cX12_beast 193 = .ok (.aload_n 0, 1) := by decide +kernel
theorem dX12_beast_194 : decode cX12_beast 194 = .ok (.getfield 75, 3) := by decide +kernel
theorem dX12_beast_197 : decode cX12_beast 197 = .ok (.bipush 10, 2) := by decide +kernel
theorem dX12_beast_199 : decode cX12_beast 199 = .ok (.iload_n 1, 1) := by decide +kernel
theorem dX12_beast_200 : decode cX12_beast 200 = .ok (.imul, 1) := by decide +kernel
theorem dX12_beast_201 : decode cX12_beast 201 = .ok (.iload 7, 2) := by decide +kernel
theorem dX12_beast_203 : decode cX12_beast 203 = .ok (.iadd, 1) := by decide +kernel
theorem dX12_beast_204 : decode cX12_beast 204 = .ok (.aload_n 0, 1) := by decide +kernel
theorem dX12_beast_205 : decode cX12_beast 205 = .ok (.iload_n 3, 1) := by decide +kernel
theorem dX12_beast_206 : decode cX12_beast 206 = .ok (.iload 7, 2) := by decide +kernel
theorem dX12_beast_208 : decode cX12_beast 208 = .ok (.invokevirtual 149, 3) := by decide +kernel
theorem dX12_beast_211 : decode cX12_beast 211 = .ok (.iastore, 1) := by decide +kernel
theorem dX12_beast_212 : decode cX12_beast 212 = .ok (.iload 6, 2) := by decide +kernel
theorem dX12_beast_214 : decode cX12_beast 214 = .ok (.aload_n 0, 1) := by decide +kernel
theorem dX12_beast_215 : decode cX12_beast 215 = .ok (.iload_n 2, 1) := by decide +kernel
theorem dX12_beast_216 : decode cX12_beast 216 = .ok (.iload 7, 2) := by decide +kernel
theorem dX12_beast_218 : decode cX12_beast 218 = .ok (.invokevirtual 149, 3) := by decide +kernel
theorem dX12_beast_221 : decode cX12_beast 221 = .ok (.invokestatic 266, 3) := by decide +kernel
theorem dX12_beast_224 : decode cX12_beast 224 = .ok (.iadd, 1) := by decide +kernel
theorem dX12_beast_225 : decode cX12_beast 225 = .ok (.istore 6, 2) := by decide +kernel
theorem dX12_beast_227 : decode cX12_beast 227 = .ok (.iinc 7 1, 3) := by decide +kernel
theorem dX12_beast_230 : decode cX12_beast 230 = .ok (.goto (-63), 3) := by decide +kernel
theorem dX12_beast_233 : decode cX12_beast 233 = .ok (.aload_n 0, 1) := by decide +kernel
theorem dX12_beast_234 : decode cX12_beast 234 = .ok (.getfield 78, 3) := by decide +kernel
theorem dX12_beast_237 : decode cX12_beast 237 = .ok (.iload_n 1, 1) := by decide +kernel
theorem dX12_beast_238 : decode cX12_beast 238 = .ok (.iload 4, 2) := by decide +kernel
theorem dX12_beast_240 : decode cX12_beast 240 = .ok (.iastore, 1) := by decide +kernel
theorem dX12_beast_241 : decode cX12_beast 241 = .ok (.aload_n 0, 1) := by decide +kernel
theorem dX12_beast_242 : decode cX12_beast 242 = .ok (.getfield 68, 3) := by decide +kernel
theorem dX12_beast_245 : decode cX12_beast 245 = .ok (.iload_n 1, 1) := by decide +kernel
theorem dX12_beast_246 : decode cX12_beast 246 = .ok (.iconst 1, 1) := by decide +kernel
theorem dX12_beast_247 : decode cX12_beast 247 = .ok (.bastore, 1) := by decide +kernel
theorem dX12_beast_248 : decode cX12_beast 248 = .ok (.iload 6, 2) := by decide +kernel
theorem dX12_beast_250 : decode cX12_beast 250 = .ok (.ireturn, 1) := by decide +kernel
theorem dX12_missedBy_0 : decode cX12_missedBy 0 = .ok (.iconst 0, 1) := by decide +kernel
theorem dX12_missedBy_1 : decode cX12_missedBy 1 = .ok (.istore_n 2, 1) := by decide +kernel
theorem dX12_missedBy_2 : decode cX12_missedBy 2 = .ok (.iconst 0, 1) := by decide +kernel
theorem dX12_missedBy_3 : decode cX12_missedBy 3 = .ok (.istore_n 3, 1) := by decide +kernel
theorem dX12_missedBy_4 : decode cX12_missedBy 4 = .ok (.iload_n 3, 1) := by decide +kernel
theorem dX12_missedBy_5 : decode cX12_missedBy 5 = .ok (.bipush 10, 2) := by decide +kernel
theorem dX12_missedBy_7 : decode cX12_missedBy 7 = .ok (.if_icmp .ge 35, 3) := by decide +kernel
theorem dX12_missedBy_10 : decode cX12_missedBy 10 = .ok (.iload_n 2, 1) := by decide +kernel
theorem dX12_missedBy_11 : decode cX12_missedBy 11 = .ok (.aload_n 0, 1) := by decide +kernel
theorem dX12_missedBy_12 : decode cX12_missedBy 12 = .ok (.getfield 72, 3) := by decide +kernel
theorem dX12_missedBy_15 : decode cX12_missedBy 15 = .ok (.bipush 10, 2) := by decide +kernel
theorem dX12_missedBy_17 : decode cX12_missedBy 17 = .ok (.iload_n 1, 1) := by decide +kernel
theorem dX12_missedBy_18 : decode cX12_missedBy 18 = .ok (.imul, 1) := by decide +kernel
theorem dX12_missedBy_19 : decode cX12_missedBy 19 = .ok (.iload_n 3, 1) := by decide +kernel
theorem dX12_missedBy_20 : decode cX12_missedBy 20 = .ok (.iadd, 1) := by decide +kernel
theorem dX12_missedBy_21 : decode cX12_missedBy 21 = .ok (.iaload, 1) := by decide +kernel
theorem dX12_missedBy_22 : decode cX12_missedBy 22 = .ok (.aload_n 0, 1) := by decide +kernel
theorem dX12_missedBy_23 : decode cX12_missedBy 23 = .ok (.getfield 56, 3) := by decide +kernel
theorem dX12_missedBy_26 : decode cX12_missedBy 26 = .ok (.iload_n 3, 1) := by decide +kernel
theorem dX12_missedBy_27 : decode cX12_missedBy 27 = .ok (.iaload, 1) := by decide +kernel
theorem dX12_missedBy_28 : decode cX12_missedBy 28 = .ok (.iconst (-1), 1) := by decide +kernel
theorem dX12_missedBy_29 : decode cX12_missedBy 29 = .ok (.ixor, 1) := by decide +kernel
theorem dX12_missedBy_30 : decode cX12_missedBy 30 = .ok (.iand, 1) := by decide +kernel
theorem dX12_missedBy_31 : decode cX12_missedBy 31 = .ok (.invokestatic 266, 3) := by decide +kernel
theorem dX12_missedBy_34 : decode cX12_missedBy 34 = .ok (.iadd, 1) := by decide +kernel
theorem dX12_missedBy_35 : decode cX12_missedBy 35 = .ok (.istore_n 2, 1) := by decide +kernel
theorem dX12_missedBy_36 : decode cX12_missedBy 36 = .ok (.iinc 3 1, 3) := by decide +kernel
theorem dX12_missedBy_39 : decode cX12_missedBy 39 = .ok (.goto (-35), 3) := by decide +kernel
theorem dX12_missedBy_42 : decode cX12_missedBy 42 = .ok (.iload_n 2, 1) := by decide +kernel
theorem dX12_missedBy_43 : decode cX12_missedBy 43 = .ok (.ireturn, 1) := by decide +kernel
theorem dX12_overBy_0 : decode cX12_overBy 0 = .ok (.iconst 0, 1) := by decide +kernel
theorem dX12_overBy_1 : decode cX12_overBy 1 = .ok (.istore_n 2, 1) := by decide +kernel
theorem dX12_overBy_2 : decode cX12_overBy 2 = .ok (.iconst 0, 1) := by decide +kernel
theorem dX12_overBy_3 : decode cX12_overBy 3 = .ok (.istore_n 3, 1) := by decide +kernel
theorem dX12_overBy_4 : decode cX12_overBy 4 = .ok (.iload_n 3, 1) := by decide +kernel
theorem dX12_overBy_5 : decode cX12_overBy 5 = .ok (.bipush 10, 2) := by decide +kernel
theorem dX12_overBy_7 : decode cX12_overBy 7 = .ok (.if_icmp .ge 47, 3) := by decide +kernel
theorem dX12_overBy_10 : decode cX12_overBy 10 = .ok (.iload_n 2, 1) := by decide +kernel
theorem dX12_overBy_11 : decode cX12_overBy 11 = .ok (.aload_n 0, 1) := by decide +kernel
theorem dX12_overBy_12 : decode cX12_overBy 12 = .ok (.getfield 56, 3) := by decide +kernel
theorem dX12_overBy_15 : decode cX12_overBy 15 = .ok (.iload_n 3, 1) := by decide +kernel
theorem dX12_overBy_16 : decode cX12_overBy 16 = .ok (.iaload, 1) := by decide +kernel
theorem dX12_overBy_17 : decode cX12_overBy 17 = .ok (.aload_n 0, 1) := by decide +kernel
theorem dX12_overBy_18 : decode cX12_overBy 18 = .ok (.getfield 72, 3) := by decide +kernel
theorem dX12_overBy_21 : decode cX12_overBy 21 = .ok (.bipush 10, 2) := by decide +kernel
theorem dX12_overBy_23 : decode cX12_overBy 23 = .ok (.iload_n 1, 1) := by decide +kernel
theorem dX12_overBy_24 : decode cX12_overBy 24 = .ok (.imul, 1) := by decide +kernel
theorem dX12_overBy_25 : decode cX12_overBy 25 = .ok (.iload_n 3, 1) := by decide +kernel
theorem dX12_overBy_26 : decode cX12_overBy 26 = .ok (.iadd, 1) := by decide +kernel
theorem dX12_overBy_27 : decode cX12_overBy 27 = .ok (.iaload, 1) := by decide +kernel
theorem dX12_overBy_28 : decode cX12_overBy 28 = .ok (.aload_n 0, 1) := by decide +kernel
theorem dX12_overBy_29 : decode cX12_overBy 29 = .ok (.getfield 75, 3) := by decide +kernel
theorem dX12_overBy_32 : decode cX12_overBy 32 = .ok (.bipush 10, 2) := by decide +kernel
theorem dX12_overBy_34 : decode cX12_overBy 34 = .ok (.iload_n 1, 1) := by decide +kernel
theorem dX12_overBy_35 : decode cX12_overBy 35 = .ok (.imul, 1) := by decide +kernel
theorem dX12_overBy_36 : decode cX12_overBy 36 = .ok (.iload_n 3, 1) := by decide +kernel
theorem dX12_overBy_37 : decode cX12_overBy 37 = .ok (.iadd, 1) := by decide +kernel
theorem dX12_overBy_38 : decode cX12_overBy 38 = .ok (.iaload, 1) := by decide +kernel
theorem dX12_overBy_39 : decode cX12_overBy 39 = .ok (.ior, 1) := by decide +kernel
theorem dX12_overBy_40 : decode cX12_overBy 40 = .ok (.iconst (-1), 1) := by decide +kernel
theorem dX12_overBy_41 : decode cX12_overBy 41 = .ok (.ixor, 1) := by decide +kernel
theorem dX12_overBy_42 : decode cX12_overBy 42 = .ok (.iand, 1) := by decide +kernel
theorem dX12_overBy_43 : decode cX12_overBy 43 = .ok (.invokestatic 266, 3) := by decide +kernel
theorem dX12_overBy_46 : decode cX12_overBy 46 = .ok (.iadd, 1) := by decide +kernel
theorem dX12_overBy_47 : decode cX12_overBy 47 = .ok (.istore_n 2, 1) := by decide +kernel
theorem dX12_overBy_48 : decode cX12_overBy 48 = .ok (.iinc 3 1, 3) := by decide +kernel
theorem dX12_overBy_51 : decode cX12_overBy 51 = .ok (.goto (-47), 3) := by decide +kernel
theorem dX12_overBy_54 : decode cX12_overBy 54 = .ok (.iload_n 2, 1) := by decide +kernel
theorem dX12_overBy_55 : decode cX12_overBy 55 = .ok (.ireturn, 1) := by decide +kernel
theorem dX12_offBy_0 : decode cX12_offBy 0 = .ok (.aload_n 0, 1) := by decide +kernel
theorem dX12_offBy_1 : decode cX12_offBy 1 = .ok (.iload_n 1, 1) := by decide +kernel
theorem dX12_offBy_2 : decode cX12_offBy 2 = .ok (.invokevirtual 320, 3) := by decide +kernel
theorem dX12_offBy_5 : decode cX12_offBy 5 = .ok (.aload_n 0, 1) := by decide +kernel
theorem dX12_offBy_6 : decode cX12_offBy 6 = .ok (.iload_n 1, 1) := by decide +kernel
theorem dX12_offBy_7 : decode cX12_offBy 7 = .ok (.invokevirtual 323, 3) := by decide +kernel
theorem dX12_offBy_10 : decode cX12_offBy 10 = .ok (.iadd, 1) := by decide +kernel
theorem dX12_offBy_11 : decode cX12_offBy 11 = .ok (.ireturn, 1) := by decide +kernel
theorem dX12_off_0 : decode cX12_off 0 = .ok (.aload_n 0, 1) := by decide +kernel
theorem dX12_off_1 : decode cX12_off 1 = .ok (.iload_n 1, 1) := by decide +kernel
theorem dX12_off_2 : decode cX12_off 2 = .ok (.invokevirtual 290, 3) := by decide +kernel
theorem dX12_off_5 : decode cX12_off 5 = .ok (.ifCond .eq 10, 3) := by decide +kernel
theorem dX12_off_8 : decode cX12_off 8 = .ok (.iload_n 2, 1) := by decide +kernel
theorem dX12_off_9 : decode cX12_off 9 = .ok (.invokestatic 317, 3) := by decide +kernel
theorem dX12_off_12 : decode cX12_off 12 = .ok (.ifCond .ne 5, 3) := by decide +kernel
theorem dX12_off_15 : decode cX12_off 15 = .ok (.iconst (-1), 1) := by decide +kernel
theorem dX12_off_16 : decode cX12_off 16 = .ok (.ireturn, 1) := by decide +kernel
theorem dX12_off_17 : decode cX12_off 17 = .ok (.aload_n 0, 1) := by decide +kernel
theorem dX12_off_18 : decode cX12_off 18 = .ok (.getfield 68, 3) := by decide +kernel
theorem dX12_off_21 : decode cX12_off 21 = .ok (.iload_n 2, 1) := by decide +kernel
theorem dX12_off_22 : decode cX12_off 22 = .ok (.baload, 1) := by decide +kernel
theorem dX12_off_23 : decode cX12_off 23 = .ok (.ifCond .ne 9, 3) := by decide +kernel
theorem dX12_off_26 : decode cX12_off 26 = .ok (.aload_n 0, 1) := by decide +kernel
theorem dX12_off_27 : decode cX12_off 27 = .ok (.iconst 1, 1) := by decide +kernel
theorem dX12_off_28 : decode cX12_off 28 = .ok (.invokevirtual 145, 3) := by decide +kernel
theorem dX12_off_31 : decode cX12_off 31 = .ok (.ireturn, 1) := by decide +kernel
theorem dX12_off_32 : decode cX12_off 32 = .ok (.aload_n 0, 1) := by decide +kernel
theorem dX12_off_33 : decode cX12_off 33 = .ok (.iload_n 1, 1) := by decide +kernel
theorem dX12_off_34 : decode cX12_off 34 = .ok (.invokevirtual 314, 3) := by decide +kernel
theorem dX12_off_37 : decode cX12_off 37 = .ok (.aload_n 0, 1) := by decide +kernel
theorem dX12_off_38 : decode cX12_off 38 = .ok (.aload_n 0, 1) := by decide +kernel
theorem dX12_off_39 : decode cX12_off 39 = .ok (.iload_n 2, 1) := by decide +kernel
theorem dX12_off_40 : decode cX12_off 40 = .ok (.invokevirtual 320, 3) := by decide +kernel
theorem dX12_off_43 : decode cX12_off 43 = .ok (.aload_n 0, 1) := by decide +kernel
theorem dX12_off_44 : decode cX12_off 44 = .ok (.iload_n 2, 1) := by decide +kernel
theorem dX12_off_45 : decode cX12_off 45 = .ok (.invokevirtual 326, 3) := by decide +kernel
theorem dX12_off_48 : decode cX12_off 48 = .ok (.invokevirtual 153, 3) := by decide +kernel
theorem dX12_off_51 : decode cX12_off 51 = .ok (.ireturn, 1) := by decide +kernel
theorem dX12_many_0 : decode cX12_many 0 = .ok (.aload_n 0, 1) := by decide +kernel
theorem dX12_many_1 : decode cX12_many 1 = .ok (.invokevirtual 329, 3) := by decide +kernel
theorem dX12_many_4 : decode cX12_many 4 = .ok (.istore_n 1, 1) := by decide +kernel
theorem dX12_many_5 : decode cX12_many 5 = .ok (.iload_n 1, 1) := by decide +kernel
theorem dX12_many_6 : decode cX12_many 6 = .ok (.sipush 4096, 3) := by decide +kernel
theorem dX12_many_9 : decode cX12_many 9 = .ok (.if_icmp .le 6, 3) := by decide +kernel
theorem dX12_many_12 : decode cX12_many 12 = .ok (.bipush (-6), 2) := by decide +kernel
theorem dX12_many_14 : decode cX12_many 14 = .ok (.ireturn, 1) := by decide +kernel
theorem dX12_many_15 : decode cX12_many 15 = .ok (.iconst 0, 1) := by decide +kernel
theorem dX12_many_16 : decode cX12_many 16 = .ok (.istore_n 2, 1) := by decide +kernel
theorem dX12_many_17 : decode cX12_many 17 = .ok (.iconst 0, 1) := by decide +kernel
theorem dX12_many_18 : decode cX12_many 18 = .ok (.istore_n 3, 1) := by decide +kernel
theorem dX12_many_19 : decode cX12_many 19 = .ok (.iconst 0, 1) := by decide +kernel
theorem dX12_many_20 : decode cX12_many 20 = .ok (.istore 4, 2) := by decide +kernel
theorem dX12_many_22 : decode cX12_many 22 = .ok (.iload 4, 2) := by decide +kernel
theorem dX12_many_24 : decode cX12_many 24 = .ok (.iload_n 1, 1) := by decide +kernel
theorem dX12_many_25 : decode cX12_many 25 = .ok (.if_icmp .ge 55, 3) := by decide +kernel
theorem dX12_many_28 : decode cX12_many 28 = .ok (.aload_n 0, 1) := by decide +kernel
theorem dX12_many_29 : decode cX12_many 29 = .ok (.iload 4, 2) := by decide +kernel
theorem dX12_many_31 : decode cX12_many 31 = .ok (.invokevirtual 257, 3) := by decide +kernel
theorem dX12_many_34 : decode cX12_many 34 = .ok (.aload_n 0, 1) := by decide +kernel
theorem dX12_many_35 : decode cX12_many 35 = .ok (.iconst (-1), 1) := by decide +kernel
theorem dX12_many_36 : decode cX12_many 36 = .ok (.invokevirtual 260, 3) := by decide +kernel
theorem dX12_many_39 : decode cX12_many 39 = .ok (.aload_n 0, 1) := by decide +kernel
theorem dX12_many_40 : decode cX12_many 40 = .ok (.iconst (-1), 1) := by decide +kernel
theorem dX12_many_41 : decode cX12_many 41 = .ok (.invokevirtual 263, 3) := by decide +kernel
theorem dX12_many_44 : decode cX12_many 44 = .ok (.istore 5, 2) := by decide +kernel
theorem dX12_many_46 : decode cX12_many 46 = .ok (.iload_n 2, 1) := by decide +kernel
theorem dX12_many_47 : decode cX12_many 47 = .ok (.iload 5, 2) := by decide +kernel
theorem dX12_many_49 : decode cX12_many 49 = .ok (.iconst 1, 1) := by decide +kernel
theorem dX12_many_50 : decode cX12_many 50 = .ok (.if_icmp .ne 7, 3) := by decide +kernel
theorem dX12_many_53 : decode cX12_many 53 = .ok (.iconst 1, 1) := by decide +kernel
theorem dX12_many_54 : decode cX12_many 54 = .ok (.goto 4, 3) := by decide +kernel
theorem dX12_many_57 : decode cX12_many 57 = .ok (.iconst 0, 1) := by decide +kernel
theorem dX12_many_58 : decode cX12_many 58 = .ok (.iadd, 1) := by decide +kernel
theorem dX12_many_59 : decode cX12_many 59 = .ok (.istore_n 2, 1) := by decide +kernel
theorem dX12_many_60 : decode cX12_many 60 = .ok (.iload_n 3, 1) := by decide +kernel
theorem dX12_many_61 : decode cX12_many 61 = .ok (.iload 5, 2) := by decide +kernel
theorem dX12_many_63 : decode cX12_many 63 = .ok (.iconst 2, 1) := by decide +kernel
theorem dX12_many_64 : decode cX12_many 64 = .ok (.if_icmp .ne 7, 3) := by decide +kernel
theorem dX12_many_67 : decode cX12_many 67 = .ok (.iconst 1, 1) := by decide +kernel
theorem dX12_many_68 : decode cX12_many 68 = .ok (.goto 4, 3) := by decide +kernel
theorem dX12_many_71 : decode cX12_many 71 = .ok (.iconst 0, 1) := by decide +kernel
theorem dX12_many_72 : decode cX12_many 72 = .ok (.iadd, 1) := by decide +kernel
theorem dX12_many_73 : decode cX12_many 73 = .ok (.istore_n 3, 1) := by decide +kernel
theorem dX12_many_74 : decode cX12_many 74 = .ok (.iinc 4 1, 3) := by decide +kernel
theorem dX12_many_77 : decode cX12_many 77 = .ok (.goto (-55), 3) := by decide +kernel
theorem dX12_many_80 : decode cX12_many 80 = .ok (.aload_n 0, 1) := by decide +kernel
theorem dX12_many_81 : decode cX12_many 81 = .ok (.iload_n 3, 1) := by decide +kernel
theorem dX12_many_82 : decode cX12_many 82 = .ok (.iload_n 2, 1) := by decide +kernel
theorem dX12_many_83 : decode cX12_many 83 = .ok (.invokevirtual 153, 3) := by decide +kernel
theorem dX12_many_86 : decode cX12_many 86 = .ok (.ireturn, 1) := by decide +kernel
theorem dX12_leastOff_0 : decode cX12_leastOff 0 = .ok (.bipush (-9), 2) := by decide +kernel
theorem dX12_leastOff_2 : decode cX12_leastOff 2 = .ok (.istore 4, 2) := by decide +kernel
theorem dX12_leastOff_4 : decode cX12_leastOff 4 = .ok (.aload_n 0, 1) := by decide +kernel
theorem dX12_leastOff_5 : decode cX12_leastOff 5 = .ok (.invokevirtual 329, 3) := by decide +kernel
theorem dX12_leastOff_8 : decode cX12_leastOff 8 = .ok (.istore 5, 2) := by decide +kernel
theorem dX12_leastOff_10 : decode cX12_leastOff 10 = .ok (.iconst 0, 1) := by decide +kernel
theorem dX12_leastOff_11 : decode cX12_leastOff 11 = .ok (.istore 6, 2) := by decide +kernel
theorem dX12_leastOff_13 : decode cX12_leastOff 13 = .ok (.iload 6, 2) := by decide +kernel
theorem dX12_leastOff_15 : decode cX12_leastOff 15 = .ok (.iload 5, 2) := by decide +kernel
theorem dX12_leastOff_17 : decode cX12_leastOff 17 = .ok (.if_icmp .ge 69, 3) := by decide +kernel
theorem dX12_leastOff_20 : decode cX12_leastOff 20 = .ok (.aload_n 0, 1) := by decide +kernel
theorem dX12_leastOff_21 : decode cX12_leastOff 21 = .ok (.iload 6, 2) := by decide +kernel
theorem dX12_leastOff_23 : decode cX12_leastOff 23 = .ok (.iload_n 2, 1) := by decide +kernel
theorem dX12_leastOff_24 : decode cX12_leastOff 24 = .ok (.invokevirtual 332, 3) := by decide +kernel
theorem dX12_leastOff_27 : decode cX12_leastOff 27 = .ok (.ifCond .eq 53, 3) := by decide +kernel
theorem dX12_leastOff_30 : decode cX12_leastOff 30 = .ok (.iload_n 3, 1) := by decide +kernel
theorem dX12_leastOff_31 : decode cX12_leastOff 31 = .ok (.bipush (-9), 2) := by decide +kernel
theorem dX12_leastOff_33 : decode cX12_leastOff 33 = .ok (.if_icmp .eq 12, 3) := by decide +kernel
theorem dX12_leastOff_36 : decode cX12_leastOff 36 = .ok (.aload_n 0, 1) := by decide +kernel
theorem dX12_leastOff_37 : decode cX12_leastOff 37 = .ok (.getfield 47, 3) := by decide +kernel
theorem dX12_leastOff_40 : decode cX12_leastOff 40 = .ok (.iload_n 3, 1) := by decide +kernel
theorem dX12_leastOff_41 : decode cX12_leastOff 41 = .ok (.iaload, 1) := by decide +kernel
theorem dX12_leastOff_42 : decode cX12_leastOff 42 = .ok (.ifCond .ne 38, 3) := by decide +kernel
theorem dX12_leastOff_45 : decode cX12_leastOff 45 = .ok (.aload_n 0, 1) := by decide +kernel
theorem dX12_leastOff_46 : decode cX12_leastOff 46 = .ok (.invokevirtual 311, 3) := by decide +kernel
theorem dX12_leastOff_49 : decode cX12_leastOff 49 = .ok (.aload_n 0, 1) := by decide +kernel
theorem dX12_leastOff_50 : decode cX12_leastOff 50 = .ok (.iload_n 1, 1) := by decide +kernel
theorem dX12_leastOff_51 : decode cX12_leastOff 51 = .ok (.invokevirtual 326, 3) := by decide +kernel
theorem dX12_leastOff_54 : decode cX12_leastOff 54 = .ok (.istore 7, 2) := by decide +kernel
theorem dX12_leastOff_56 : decode cX12_leastOff 56 = .ok (.iload 4, 2) := by decide +kernel
theorem dX12_leastOff_58 : decode cX12_leastOff 58 = .ok (.bipush (-9), 2) := by decide +kernel
theorem dX12_leastOff_60 : decode cX12_leastOff 60 = .ok (.if_icmp .eq 10, 3) := by decide +kernel
theorem dX12_leastOff_63 : decode cX12_leastOff 63 = .ok (.iload 7, 2) := by decide +kernel
theorem dX12_leastOff_65 : decode cX12_leastOff 65 = .ok (.iload 4, 2) := by decide +kernel
theorem dX12_leastOff_67 : decode cX12_leastOff 67 = .ok (.if_icmp .ge 13, 3) := by decide +kernel
theorem dX12_leastOff_70 : decode cX12_leastOff 70 = .ok (.iload 7, 2) := by decide +kernel
theorem dX12_leastOff_72 : decode cX12_leastOff 72 = .ok (.istore 4, 2) := by decide +kernel
theorem dX12_leastOff_74 : decode cX12_leastOff 74 = .ok (.aload_n 0, 1) := by decide +kernel
theorem dX12_leastOff_75 : decode cX12_leastOff 75 = .ok (.iload 6, 2) := by decide +kernel
theorem dX12_leastOff_77 : decode cX12_leastOff 77 = .ok (.putfield 335, 3) := by decide +kernel
theorem dX12_leastOff_80 : decode cX12_leastOff 80 = .ok (.iinc 6 1, 3) := by decide +kernel
theorem dX12_leastOff_83 : decode cX12_leastOff 83 = .ok (.goto (-70), 3) := by decide +kernel
theorem dX12_leastOff_86 : decode cX12_leastOff 86 = .ok (.iload 4, 2) := by decide +kernel
theorem dX12_leastOff_88 : decode cX12_leastOff 88 = .ok (.ireturn, 1) := by decide +kernel
theorem dX12_needBeast_0 : decode cX12_needBeast 0 = .ok (.iload_n 1, 1) := by decide +kernel
theorem dX12_needBeast_1 : decode cX12_needBeast 1 = .ok (.ifCond .eq 10, 3) := by decide +kernel
theorem dX12_needBeast_4 : decode cX12_needBeast 4 = .ok (.iload_n 2, 1) := by decide +kernel
theorem dX12_needBeast_5 : decode cX12_needBeast 5 = .ok (.invokestatic 317, 3) := by decide +kernel
theorem dX12_needBeast_8 : decode cX12_needBeast 8 = .ok (.ifCond .ne 5, 3) := by decide +kernel
theorem dX12_needBeast_11 : decode cX12_needBeast 11 = .ok (.iconst (-1), 1) := by decide +kernel
theorem dX12_needBeast_12 : decode cX12_needBeast 12 = .ok (.ireturn, 1) := by decide +kernel
theorem dX12_needBeast_13 : decode cX12_needBeast 13 = .ok (.aload_n 0, 1) := by decide +kernel
theorem dX12_needBeast_14 : decode cX12_needBeast 14 = .ok (.getfield 68, 3) := by decide +kernel
theorem dX12_needBeast_17 : decode cX12_needBeast 17 = .ok (.iload_n 2, 1) := by decide +kernel
theorem dX12_needBeast_18 : decode cX12_needBeast 18 = .ok (.baload, 1) := by decide +kernel
theorem dX12_needBeast_19 : decode cX12_needBeast 19 = .ok (.ifCond .ne 9, 3) := by decide +kernel
theorem dX12_needBeast_22 : decode cX12_needBeast 22 = .ok (.aload_n 0, 1) := by decide +kernel
theorem dX12_needBeast_23 : decode cX12_needBeast 23 = .ok (.iconst 1, 1) := by decide +kernel
theorem dX12_needBeast_24 : decode cX12_needBeast 24 = .ok (.invokevirtual 145, 3) := by decide +kernel
theorem dX12_needBeast_27 : decode cX12_needBeast 27 = .ok (.ireturn, 1) := by decide +kernel
theorem dX12_needBeast_28 : decode cX12_needBeast 28 = .ok (.aload_n 0, 1) := by decide +kernel
theorem dX12_needBeast_29 : decode cX12_needBeast 29 = .ok (.invokevirtual 329, 3) := by decide +kernel
theorem dX12_needBeast_32 : decode cX12_needBeast 32 = .ok (.sipush 4096, 3) := by decide +kernel
theorem dX12_needBeast_35 : decode cX12_needBeast 35 = .ok (.if_icmp .le 8, 3) := by decide +kernel
theorem dX12_needBeast_38 : decode cX12_needBeast 38 = .ok (.bipush (-6), 2) := by decide +kernel
theorem dX12_needBeast_40 : decode cX12_needBeast 40 = .ok (.goto 4, 3) := by decide +kernel
theorem dX12_needBeast_43 : decode cX12_needBeast 43 = .ok (.iconst 0, 1) := by decide +kernel
theorem dX12_needBeast_44 : decode cX12_needBeast 44 = .ok (.ireturn, 1) := by decide +kernel
theorem dX12_nearest_0 : decode cX12_nearest 0 = .ok (.aload_n 0, 1) := by decide +kernel
theorem dX12_nearest_1 : decode cX12_nearest 1 = .ok (.iload_n 2, 1) := by decide +kernel
theorem dX12_nearest_2 : decode cX12_nearest 2 = .ok (.invokestatic 141, 3) := by decide +kernel
theorem dX12_nearest_5 : decode cX12_nearest 5 = .ok (.iload_n 1, 1) := by decide +kernel
theorem dX12_nearest_6 : decode cX12_nearest 6 = .ok (.invokevirtual 338, 3) := by decide +kernel
theorem dX12_nearest_9 : decode cX12_nearest 9 = .ok (.istore_n 3, 1) := by decide +kernel
theorem dX12_nearest_10 : decode cX12_nearest 10 = .ok (.iload_n 3, 1) := by decide +kernel
theorem dX12_nearest_11 : decode cX12_nearest 11 = .ok (.ifCond .ge 5, 3) := by decide +kernel
theorem dX12_nearest_14 : decode cX12_nearest 14 = .ok (.iload_n 3, 1) := by decide +kernel
theorem dX12_nearest_15 : decode cX12_nearest 15 = .ok (.ireturn, 1) := by decide +kernel
theorem dX12_nearest_16 : decode cX12_nearest 16 = .ok (.aload_n 0, 1) := by decide +kernel
theorem dX12_nearest_17 : decode cX12_nearest 17 = .ok (.iload_n 1, 1) := by decide +kernel
theorem dX12_nearest_18 : decode cX12_nearest 18 = .ok (.iconst (-1), 1) := by decide +kernel
theorem dX12_nearest_19 : decode cX12_nearest 19 = .ok (.bipush (-9), 2) := by decide +kernel
theorem dX12_nearest_21 : decode cX12_nearest 21 = .ok (.invokevirtual 342, 3) := by decide +kernel
theorem dX12_nearest_24 : decode cX12_nearest 24 = .ok (.istore 4, 2) := by decide +kernel
theorem dX12_nearest_26 : decode cX12_nearest 26 = .ok (.iload 4, 2) := by decide +kernel
theorem dX12_nearest_28 : decode cX12_nearest 28 = .ok (.bipush (-9), 2) := by decide +kernel
theorem dX12_nearest_30 : decode cX12_nearest 30 = .ok (.if_icmp .ne 6, 3) := by decide +kernel
theorem dX12_nearest_33 : decode cX12_nearest 33 = .ok (.bipush (-9), 2) := by decide +kernel
theorem dX12_nearest_35 : decode cX12_nearest 35 = .ok (.ireturn, 1) := by decide +kernel
theorem dX12_nearest_36 : decode cX12_nearest 36 = .ok (.aload_n 0, 1) := by decide +kernel
theorem dX12_nearest_37 : decode cX12_nearest 37 = .ok (.aload_n 0, 1) := by decide +kernel
theorem dX12_nearest_38 : decode cX12_nearest 38 = .ok (.getfield 335, 3) := by decide +kernel
theorem dX12_nearest_41 : decode cX12_nearest 41 = .ok (.invokevirtual 257, 3) := by decide +kernel
theorem dX12_nearest_44 : decode cX12_nearest 44 = .ok (.aload_n 0, 1) := by decide +kernel
theorem dX12_nearest_45 : decode cX12_nearest 45 = .ok (.iload_n 2, 1) := by decide +kernel
theorem dX12_nearest_46 : decode cX12_nearest 46 = .ok (.aload_n 0, 1) := by decide +kernel
theorem dX12_nearest_47 : decode cX12_nearest 47 = .ok (.getfield 199, 3) := by decide +kernel
theorem dX12_nearest_50 : decode cX12_nearest 50 = .ok (.invokevirtual 275, 3) := by decide +kernel
theorem dX12_nearest_53 : decode cX12_nearest 53 = .ok (.iconst 0, 1) := by decide +kernel
theorem dX12_nearest_54 : decode cX12_nearest 54 = .ok (.istore 5, 2) := by decide +kernel
theorem dX12_nearest_56 : decode cX12_nearest 56 = .ok (.iload 5, 2) := by decide +kernel
theorem dX12_nearest_58 : decode cX12_nearest 58 = .ok (.aload_n 0, 1) := by decide +kernel
theorem dX12_nearest_59 : decode cX12_nearest 59 = .ok (.getfield 199, 3) := by decide +kernel
theorem dX12_nearest_62 : decode cX12_nearest 62 = .ok (.if_icmp .ge 28, 3) := by decide +kernel
theorem dX12_nearest_65 : decode cX12_nearest 65 = .ok (.aload_n 0, 1) := by decide +kernel
theorem dX12_nearest_66 : decode cX12_nearest 66 = .ok (.getfield 16, 3) := by decide +kernel
theorem dX12_nearest_69 : decode cX12_nearest 69 = .ok (.bipush 40, 2) := by decide +kernel
theorem dX12_nearest_71 : decode cX12_nearest 71 = .ok (.iload_n 2, 1) := by decide +kernel
theorem dX12_nearest_72 : decode cX12_nearest 72 = .ok (.imul, 1) := by decide +kernel
theorem dX12_nearest_73 : decode cX12_nearest 73 = .ok (.iload 5, 2) := by decide +kernel
theorem dX12_nearest_75 : decode cX12_nearest 75 = .ok (.iadd, 1) := by decide +kernel
theorem dX12_nearest_76 : decode cX12_nearest 76 = .ok (.aload_n 0, 1) := by decide +kernel
theorem dX12_nearest_77 : decode cX12_nearest 77 = .ok (.getfield 47, 3) := by decide +kernel
theorem dX12_nearest_80 : decode cX12_nearest 80 = .ok (.iload 5, 2) := by decide +kernel
theorem dX12_nearest_82 : decode cX12_nearest 82 = .ok (.iaload, 1) := by decide +kernel
theorem dX12_nearest_83 : decode cX12_nearest 83 = .ok (.iastore, 1) := by decide +kernel
theorem dX12_nearest_84 : decode cX12_nearest 84 = .ok (.iinc 5 1, 3) := by decide +kernel
theorem dX12_nearest_87 : decode cX12_nearest 87 = .ok (.goto (-31), 3) := by decide +kernel
theorem dX12_nearest_90 : decode cX12_nearest 90 = .ok (.iload 4, 2) := by decide +kernel
theorem dX12_nearest_92 : decode cX12_nearest 92 = .ok (.ireturn, 1) := by decide +kernel
theorem dX12_never_0 : decode cX12_never 0 = .ok (.aload_n 0, 1) := by decide +kernel
theorem dX12_never_1 : decode cX12_never 1 = .ok (.iload_n 2, 1) := by decide +kernel
theorem dX12_never_2 : decode cX12_never 2 = .ok (.invokestatic 141, 3) := by decide +kernel
theorem dX12_never_5 : decode cX12_never 5 = .ok (.iload_n 1, 1) := by decide +kernel
theorem dX12_never_6 : decode cX12_never 6 = .ok (.invokevirtual 338, 3) := by decide +kernel
theorem dX12_never_9 : decode cX12_never 9 = .ok (.istore_n 3, 1) := by decide +kernel
theorem dX12_never_10 : decode cX12_never 10 = .ok (.iload_n 3, 1) := by decide +kernel
theorem dX12_never_11 : decode cX12_never 11 = .ok (.ifCond .ge 5, 3) := by decide +kernel
theorem dX12_never_14 : decode cX12_never 14 = .ok (.iload_n 3, 1) := by decide +kernel
theorem dX12_never_15 : decode cX12_never 15 = .ok (.ireturn, 1) := by decide +kernel
theorem dX12_never_16 : decode cX12_never 16 = .ok (.iconst 0, 1) := by decide +kernel
theorem dX12_never_17 : decode cX12_never 17 = .ok (.istore 4, 2) := by decide +kernel
theorem dX12_never_19 : decode cX12_never 19 = .ok (.iload 4, 2) := by decide +kernel
theorem dX12_never_21 : decode cX12_never 21 = .ok (.bipush 10, 2) := by decide +kernel
theorem dX12_never_23 : decode cX12_never 23 = .ok (.if_icmp .ge 17, 3) := by decide +kernel
theorem dX12_never_26 : decode cX12_never 26 = .ok (.aload_n 0, 1) := by decide +kernel
theorem dX12_never_27 : decode cX12_never 27 = .ok (.getfield 81, 3) := by decide +kernel
theorem dX12_never_30 : decode cX12_never 30 = .ok (.iload 4, 2) := by decide +kernel
theorem dX12_never_32 : decode cX12_never 32 = .ok (.iconst 0, 1) := by decide +kernel
theorem dX12_never_33 : decode cX12_never 33 = .ok (.iastore, 1) := by decide +kernel
theorem dX12_never_34 : decode cX12_never 34 = .ok (.iinc 4 1, 3) := by decide +kernel
theorem dX12_never_37 : decode cX12_never 37 = .ok (.goto (-18), 3) := by decide +kernel
theorem dX12_never_40 : decode cX12_never 40 = .ok (.aload_n 0, 1) := by decide +kernel
theorem dX12_never_41 : decode cX12_never 41 = .ok (.invokevirtual 329, 3) := by decide +kernel
theorem dX12_never_44 : decode cX12_never 44 = .ok (.istore 4, 2) := by decide +kernel
theorem dX12_never_46 : decode cX12_never 46 = .ok (.iconst 0, 1) := by decide +kernel
theorem dX12_never_47 : decode cX12_never 47 = .ok (.istore 5, 2) := by decide +kernel
theorem dX12_never_49 : decode cX12_never 49 = .ok (.iload 5, 2) := by decide +kernel
theorem dX12_never_51 : decode cX12_never 51 = .ok (.iload 4, 2) := by decide +kernel
theorem dX12_never_53 : decode cX12_never 53 = .ok (.if_icmp .ge 56, 3) := by decide +kernel
theorem dX12_never_56 : decode cX12_never 56 = .ok (.aload_n 0, 1) := by decide +kernel
theorem dX12_never_57 : decode cX12_never 57 = .ok (.iload 5, 2) := by decide +kernel
theorem dX12_never_59 : decode cX12_never 59 = .ok (.iconst (-1), 1) := by decide +kernel
theorem dX12_never_60 : decode cX12_never 60 = .ok (.invokevirtual 332, 3) := by decide +kernel
theorem dX12_never_63 : decode cX12_never 63 = .ok (.ifCond .eq 40, 3) := by decide +kernel
theorem dX12_never_66 : decode cX12_never 66 = .ok (.aload_n 0, 1) := by decide +kernel
theorem dX12_never_67 : decode cX12_never 67 = .ok (.invokevirtual 311, 3) := by decide +kernel
theorem dX12_never_70 : decode cX12_never 70 = .ok (.iconst 0, 1) := by decide +kernel
theorem dX12_never_71 : decode cX12_never 71 = .ok (.istore 6, 2) := by decide +kernel
theorem dX12_never_73 : decode cX12_never 73 = .ok (.iload 6, 2) := by decide +kernel
theorem dX12_never_75 : decode cX12_never 75 = .ok (.bipush 10, 2) := by decide +kernel
theorem dX12_never_77 : decode cX12_never 77 = .ok (.if_icmp .ge 26, 3) := by decide +kernel
theorem dX12_never_80 : decode cX12_never 80 = .ok (.aload_n 0, 1) := by decide +kernel
theorem dX12_never_81 : decode cX12_never 81 = .ok (.getfield 81, 3) := by decide +kernel
theorem dX12_never_84 : decode cX12_never 84 = .ok (.iload 6, 2) := by decide +kernel
theorem dX12_never_86 : decode cX12_never 86 = .ok (.dup2, 1) := by decide +kernel
theorem dX12_never_87 : decode cX12_never 87 = .ok (.iaload, 1) := by decide +kernel
theorem dX12_never_88 : decode cX12_never 88 = .ok (.aload_n 0, 1) := by decide +kernel
theorem dX12_never_89 : decode cX12_never 89 = .ok (.getfield 56, 3) := by decide +kernel
theorem dX12_never_92 : decode cX12_never 92 = .ok (.iload 6, 2) := by decide +kernel
theorem dX12_never_94 : decode cX12_never 94 = .ok (.iaload, 1) := by decide +kernel
theorem dX12_never_95 : decode cX12_never 95 = .ok (.ior, 1) := by decide +kernel
theorem dX12_never_96 : decode cX12_never 96 = .ok (.iastore, 1) := by decide +kernel
theorem dX12_never_97 : decode cX12_never 97 = .ok (.iinc 6 1, 3) := by decide +kernel
theorem dX12_never_100 : decode cX12_never 100 = .ok (.goto (-27), 3) := by decide +kernel
theorem dX12_never_103 : decode cX12_never 103 = .ok (.iinc 5 1, 3) := by decide +kernel
theorem dX12_never_106 : decode cX12_never 106 = .ok (.goto (-57), 3) := by decide +kernel
theorem dX12_never_109 : decode cX12_never 109 = .ok (.iconst 0, 1) := by decide +kernel
theorem dX12_never_110 : decode cX12_never 110 = .ok (.istore 5, 2) := by decide +kernel
theorem dX12_never_112 : decode cX12_never 112 = .ok (.iload 5, 2) := by decide +kernel
theorem dX12_never_114 : decode cX12_never 114 = .ok (.bipush 10, 2) := by decide +kernel
theorem dX12_never_116 : decode cX12_never 116 = .ok (.if_icmp .ge 38, 3) := by decide +kernel
theorem dX12_never_119 : decode cX12_never 119 = .ok (.aload_n 0, 1) := by decide +kernel
theorem dX12_never_120 : decode cX12_never 120 = .ok (.getfield 56, 3) := by decide +kernel
theorem dX12_never_123 : decode cX12_never 123 = .ok (.iload 5, 2) := by decide +kernel
theorem dX12_never_125 : decode cX12_never 125 = .ok (.aload_n 0, 1) := by decide +kernel
theorem dX12_never_126 : decode cX12_never 126 = .ok (.getfield 72, 3) := by decide +kernel
theorem dX12_never_129 : decode cX12_never 129 = .ok (.bipush 10, 2) := by decide +kernel
theorem dX12_never_131 : decode cX12_never 131 = .ok (.iload_n 1, 1) := by decide +kernel
theorem dX12_never_132 : decode cX12_never 132 = .ok (.imul, 1) := by decide +kernel
theorem dX12_never_133 : decode cX12_never 133 = .ok (.iload 5, 2) := by decide +kernel
theorem dX12_never_135 : decode cX12_never 135 = .ok (.iadd, 1) := by decide +kernel
theorem dX12_never_136 : decode cX12_never 136 = .ok (.iaload, 1) := by decide +kernel
theorem dX12_never_137 : decode cX12_never 137 = .ok (.aload_n 0, 1) := by decide +kernel
theorem dX12_never_138 : decode cX12_never 138 = .ok (.getfield 81, 3) := by decide +kernel
theorem dX12_never_141 : decode cX12_never 141 = .ok (.iload 5, 2) := by decide +kernel
theorem dX12_never_143 : decode cX12_never 143 = .ok (.iaload, 1) := by decide +kernel
theorem dX12_never_144 : decode cX12_never 144 = .ok (.iconst (-1), 1) := by decide +kernel
theorem dX12_never_145 : decode cX12_never 145 = .ok (.ixor, 1) := by decide +kernel
theorem dX12_never_146 : decode cX12_never 146 = .ok (.iand, 1) := by decide +kernel
theorem dX12_never_147 : decode cX12_never 147 = .ok (.iastore, 1) := by decide +kernel
theorem dX12_never_148 : decode cX12_never 148 = .ok (.iinc 5 1, 3) := by decide +kernel
theorem dX12_never_151 : decode cX12_never 151 = .ok (.goto (-39), 3) := by decide +kernel
theorem dX12_never_154 : decode cX12_never 154 = .ok (.aload_n 0, 1) := by decide +kernel
theorem dX12_never_155 : decode cX12_never 155 = .ok (.iload_n 2, 1) := by decide +kernel
theorem dX12_never_156 : decode cX12_never 156 = .ok (.invokevirtual 308, 3) := by decide +kernel
theorem dX12_never_159 : decode cX12_never 159 = .ok (.ireturn, 1) := by decide +kernel
theorem dX12_layWanted_0 : decode cX12_layWanted 0 = .ok (.iconst 0, 1) := by decide +kernel
theorem dX12_layWanted_1 : decode cX12_layWanted 1 = .ok (.istore_n 2, 1) := by decide +kernel
theorem dX12_layWanted_2 : decode cX12_layWanted 2 = .ok (.iload_n 2, 1) := by decide +kernel
theorem dX12_layWanted_3 : decode cX12_layWanted 3 = .ok (.bipush 10, 2) := by decide +kernel
theorem dX12_layWanted_5 : decode cX12_layWanted 5 = .ok (.if_icmp .ge 21, 3) := by decide +kernel
theorem dX12_layWanted_8 : decode cX12_layWanted 8 = .ok (.aload_n 0, 1) := by decide +kernel
theorem dX12_layWanted_9 : decode cX12_layWanted 9 = .ok (.getfield 84, 3) := by decide +kernel
theorem dX12_layWanted_12 : decode cX12_layWanted 12 = .ok (.iload_n 2, 1) := by decide +kernel
theorem dX12_layWanted_13 : decode cX12_layWanted 13 = .ok (.aload_n 0, 1) := by decide +kernel
theorem dX12_layWanted_14 : decode cX12_layWanted 14 = .ok (.iload_n 1, 1) := by decide +kernel
theorem dX12_layWanted_15 : decode cX12_layWanted 15 = .ok (.iload_n 2, 1) := by decide +kernel
theorem dX12_layWanted_16 : decode cX12_layWanted 16 = .ok (.invokevirtual 149, 3) := by decide +kernel
theorem dX12_layWanted_19 : decode cX12_layWanted 19 = .ok (.iastore, 1) := by decide +kernel
theorem dX12_layWanted_20 : decode cX12_layWanted 20 = .ok (.iinc 2 1, 3) := by decide +kernel
theorem dX12_layWanted_23 : decode cX12_layWanted 23 = .ok (.goto (-21), 3) := by decide +kernel
theorem dX12_layWanted_26 : decode cX12_layWanted 26 = .ok (.return_, 1) := by decide +kernel
theorem dX12_isWanted_0 : decode cX12_isWanted 0 = .ok (.iconst 1, 1) := by decide +kernel
theorem dX12_isWanted_1 : decode cX12_isWanted 1 = .ok (.istore_n 1, 1) := by decide +kernel
theorem dX12_isWanted_2 : decode cX12_isWanted 2 = .ok (.iconst 0, 1) := by decide +kernel
theorem dX12_isWanted_3 : decode cX12_isWanted 3 = .ok (.istore_n 2, 1) := by decide +kernel
theorem dX12_isWanted_4 : decode cX12_isWanted 4 = .ok (.iload_n 2, 1) := by decide +kernel
theorem dX12_isWanted_5 : decode cX12_isWanted 5 = .ok (.bipush 10, 2) := by decide +kernel
theorem dX12_isWanted_7 : decode cX12_isWanted 7 = .ok (.if_icmp .ge 34, 3) := by decide +kernel
theorem dX12_isWanted_10 : decode cX12_isWanted 10 = .ok (.iload_n 1, 1) := by decide +kernel
theorem dX12_isWanted_11 : decode cX12_isWanted 11 = .ok (.ifCond .eq 22, 3) := by decide +kernel
theorem dX12_isWanted_14 : decode cX12_isWanted 14 = .ok (.aload_n 0, 1) := by decide +kernel
theorem dX12_isWanted_15 : decode cX12_isWanted 15 = .ok (.getfield 56, 3) := by decide +kernel
theorem dX12_isWanted_18 : decode cX12_isWanted 18 = .ok (.iload_n 2, 1) := by decide +kernel
theorem dX12_isWanted_19 : decode cX12_isWanted 19 = .ok (.iaload, 1) := by decide +kernel
theorem dX12_isWanted_20 : decode cX12_isWanted 20 = .ok (.aload_n 0, 1) := by decide +kernel
theorem dX12_isWanted_21 : decode cX12_isWanted 21 = .ok (.getfield 84, 3) := by decide +kernel
theorem dX12_isWanted_24 : decode cX12_isWanted 24 = .ok (.iload_n 2, 1) := by decide +kernel
theorem dX12_isWanted_25 : decode cX12_isWanted 25 = .ok (.iaload, 1) := by decide +kernel
theorem dX12_isWanted_26 : decode cX12_isWanted 26 = .ok (.if_icmp .ne 7, 3) := by decide +kernel
theorem dX12_isWanted_29 : decode cX12_isWanted 29 = .ok (.iconst 1, 1) := by decide +kernel
theorem dX12_isWanted_30 : decode cX12_isWanted 30 = .ok (.goto 4, 3) := by decide +kernel
theorem dX12_isWanted_33 : decode cX12_isWanted 33 = .ok (.iconst 0, 1) := by decide +kernel
theorem dX12_isWanted_34 : decode cX12_isWanted 34 = .ok (.istore_n 1, 1) := by decide +kernel
theorem dX12_isWanted_35 : decode cX12_isWanted 35 = .ok (.iinc 2 1, 3) := by decide +kernel
theorem dX12_isWanted_38 : decode cX12_isWanted 38 = .ok (.goto (-34), 3) := by decide +kernel
theorem dX12_isWanted_41 : decode cX12_isWanted 41 = .ok (.iload_n 1, 1) := by decide +kernel
theorem dX12_isWanted_42 : decode cX12_isWanted 42 = .ok (.ireturn, 1) := by decide +kernel
theorem dX12_throwMany_0 : decode cX12_throwMany 0 = .ok (.iconst 0, 1) := by decide +kernel
theorem dX12_throwMany_1 : decode cX12_throwMany 1 = .ok (.istore_n 1, 1) := by decide +kernel
theorem dX12_throwMany_2 : decode cX12_throwMany 2 = .ok (.aload_n 0, 1) := by decide +kernel
theorem dX12_throwMany_3 : decode cX12_throwMany 3 = .ok (.invokevirtual 329, 3) := by decide +kernel
theorem dX12_throwMany_6 : decode cX12_throwMany 6 = .ok (.istore_n 2, 1) := by decide +kernel
theorem dX12_throwMany_7 : decode cX12_throwMany 7 = .ok (.iconst 0, 1) := by decide +kernel
theorem dX12_throwMany_8 : decode cX12_throwMany 8 = .ok (.istore_n 3, 1) := by decide +kernel
theorem dX12_throwMany_9 : decode cX12_throwMany 9 = .ok (.iload_n 3, 1) := by decide +kernel
theorem dX12_throwMany_10 : decode cX12_throwMany 10 = .ok (.iload_n 2, 1) := by decide +kernel
theorem dX12_throwMany_11 : decode cX12_throwMany 11 = .ok (.if_icmp .ge 140, 3) := by decide +kernel
theorem dX12_throwMany_14 : decode cX12_throwMany 14 = .ok (.aload_n 0, 1) := by decide +kernel
theorem dX12_throwMany_15 : decode cX12_throwMany 15 = .ok (.iload_n 3, 1) := by decide +kernel
theorem dX12_throwMany_16 : decode cX12_throwMany 16 = .ok (.iconst (-1), 1) := by decide +kernel
theorem dX12_throwMany_17 : decode cX12_throwMany 17 = .ok (.invokevirtual 332, 3) := by decide +kernel
theorem dX12_throwMany_20 : decode cX12_throwMany 20 = .ok (.ifCond .eq 125, 3) := by decide +kernel
theorem dX12_throwMany_23 : decode cX12_throwMany 23 = .ok (.aload_n 0, 1) := by decide +kernel
theorem dX12_throwMany_24 : decode cX12_throwMany 24 = .ok (.invokevirtual 311, 3) := by decide +kernel
theorem dX12_throwMany_27 : decode cX12_throwMany 27 = .ok (.aload_n 0, 1) := by decide +kernel
theorem dX12_throwMany_28 : decode cX12_throwMany 28 = .ok (.invokevirtual 346, 3) := by decide +kernel
theorem dX12_throwMany_31 : decode cX12_throwMany 31 = .ok (.ifCond .eq 114, 3) := by decide +kernel
theorem dX12_throwMany_34 : decode cX12_throwMany 34 = .ok (.iconst 0, 1) := by decide +kernel
theorem dX12_throwMany_35 : decode cX12_throwMany 35 = .ok (.istore 4, 2) := by decide +kernel
theorem dX12_throwMany_37 : decode cX12_throwMany 37 = .ok (.iload 4, 2) := by decide +kernel
theorem dX12_throwMany_39 : decode cX12_throwMany 39 = .ok (.aload_n 0, 1) := by decide +kernel
theorem dX12_throwMany_40 : decode cX12_throwMany 40 = .ok (.getfield 199, 3) := by decide +kernel
theorem dX12_throwMany_43 : decode cX12_throwMany 43 = .ok (.if_icmp .ge 99, 3) := by decide +kernel
theorem dX12_throwMany_46 : decode cX12_throwMany 46 = .ok (.aload_n 0, 1) := by decide +kernel
theorem dX12_throwMany_47 : decode cX12_throwMany 47 = .ok (.getfield 87, 3) := by decide +kernel
theorem dX12_throwMany_50 : decode cX12_throwMany 50 = .ok (.iload 4, 2) := by decide +kernel
theorem dX12_throwMany_52 : decode cX12_throwMany 52 = .ok (.iload_n 1, 1) := by decide +kernel
theorem dX12_throwMany_53 : decode cX12_throwMany 53 = .ok (.ifCond .eq 20, 3) := by decide +kernel
theorem dX12_throwMany_56 : decode cX12_throwMany 56 = .ok (.aload_n 0, 1) := by decide +kernel
theorem dX12_throwMany_57 : decode cX12_throwMany 57 = .ok (.getfield 47, 3) := by decide +kernel
theorem dX12_throwMany_60 : decode cX12_throwMany 60 = .ok (.iload 4, 2) := by decide +kernel
theorem dX12_throwMany_62 : decode cX12_throwMany 62 = .ok (.iaload, 1) := by decide +kernel
theorem dX12_throwMany_63 : decode cX12_throwMany 63 = .ok (.aload_n 0, 1) := by decide +kernel
theorem dX12_throwMany_64 : decode cX12_throwMany 64 = .ok (.getfield 87, 3) := by decide +kernel
theorem dX12_throwMany_67 : decode cX12_throwMany 67 = .ok (.iload 4, 2) := by decide +kernel
theorem dX12_throwMany_69 : decode cX12_throwMany 69 = .ok (.iaload, 1) := by decide +kernel
theorem dX12_throwMany_70 : decode cX12_throwMany 70 = .ok (.if_icmp .ge 13, 3) := by decide +kernel
theorem dX12_throwMany_73 : decode cX12_throwMany 73 = .ok (.aload_n 0, 1) := by decide +kernel
theorem dX12_throwMany_74 : decode cX12_throwMany 74 = .ok (.getfield 47, 3) := by decide +kernel
theorem dX12_throwMany_77 : decode cX12_throwMany 77 = .ok (.iload 4, 2) := by decide +kernel
theorem dX12_throwMany_79 : decode cX12_throwMany 79 = .ok (.iaload, 1) := by decide +kernel
theorem dX12_throwMany_80 : decode cX12_throwMany 80 = .ok (.goto 10, 3) := by decide +kernel
theorem dX12_throwMany_83 : decode cX12_throwMany 83 = .ok (.aload_n 0, 1) := by decide +kernel
theorem dX12_throwMany_84 : decode cX12_throwMany 84 = .ok (.getfield 87, 3) := by decide +kernel
theorem dX12_throwMany_87 : decode cX12_throwMany 87 = .ok (.iload 4, 2) := by decide +kernel
theorem dX12_throwMany_89 : decode cX12_throwMany 89 = .ok (.iaload, 1) := by decide +kernel
theorem dX12_throwMany_90 : decode cX12_throwMany 90 = .ok (.iastore, 1) := by decide +kernel
theorem dX12_throwMany_91 : decode cX12_throwMany 91 = .ok (.aload_n 0, 1) := by decide +kernel
theorem dX12_throwMany_92 : decode cX12_throwMany 92 = .ok (.getfield 90, 3) := by decide +kernel
theorem dX12_throwMany_95 : decode cX12_throwMany 95 = .ok (.iload 4, 2) := by decide +kernel
theorem dX12_throwMany_97 : decode cX12_throwMany 97 = .ok (.iload_n 1, 1) := by decide +kernel
theorem dX12_throwMany_98 : decode cX12_throwMany 98 = .ok (.ifCond .eq 20, 3) := by decide +kernel
theorem dX12_throwMany_101 : decode cX12_throwMany 101 = .ok (.aload_n 0, 1) := by decide +kernel
theorem dX12_throwMany_102 : decode cX12_throwMany 102 = .ok (.getfield 47, 3) := by decide +kernel
theorem dX12_throwMany_105 : decode cX12_throwMany 105 = .ok (.iload 4, 2) := by decide +kernel
theorem dX12_throwMany_107 : decode cX12_throwMany 107 = .ok (.iaload, 1) := by decide +kernel
theorem dX12_throwMany_108 : decode cX12_throwMany 108 = .ok (.aload_n 0, 1) := by decide +kernel
theorem dX12_throwMany_109 : decode cX12_throwMany 109 = .ok (.getfield 90, 3) := by decide +kernel
theorem dX12_throwMany_112 : decode cX12_throwMany 112 = .ok (.iload 4, 2) := by decide +kernel
theorem dX12_throwMany_114 : decode cX12_throwMany 114 = .ok (.iaload, 1) := by decide +kernel
theorem dX12_throwMany_115 : decode cX12_throwMany 115 = .ok (.if_icmp .le 13, 3) := by decide +kernel
theorem dX12_throwMany_118 : decode cX12_throwMany 118 = .ok (.aload_n 0, 1) := by decide +kernel
theorem dX12_throwMany_119 : decode cX12_throwMany 119 = .ok (.getfield 47, 3) := by decide +kernel
theorem dX12_throwMany_122 : decode cX12_throwMany 122 = .ok (.iload 4, 2) := by decide +kernel
theorem dX12_throwMany_124 : decode cX12_throwMany 124 = .ok (.iaload, 1) := by decide +kernel
theorem dX12_throwMany_125 : decode cX12_throwMany 125 = .ok (.goto 10, 3) := by decide +kernel
theorem dX12_throwMany_128 : decode cX12_throwMany 128 = .ok (.aload_n 0, 1) := by decide +kernel
theorem dX12_throwMany_129 : decode cX12_throwMany 129 = .ok (.getfield 90, 3) := by decide +kernel
theorem dX12_throwMany_132 : decode cX12_throwMany 132 = .ok (.iload 4, 2) := by decide +kernel
theorem dX12_throwMany_134 : decode cX12_throwMany 134 = .ok (.iaload, 1) := by decide +kernel
theorem dX12_throwMany_135 : decode cX12_throwMany 135 = .ok (.iastore, 1) := by decide +kernel
theorem dX12_throwMany_136 : decode cX12_throwMany 136 = .ok (.iinc 4 1, 3) := by decide +kernel
theorem dX12_throwMany_139 : decode cX12_throwMany 139 = .ok (.goto (-102), 3) := by decide +kernel
theorem dX12_throwMany_142 : decode cX12_throwMany 142 = .ok (.iinc 1 1, 3) := by decide +kernel
theorem dX12_throwMany_145 : decode cX12_throwMany 145 = .ok (.iinc 3 1, 3) := by decide +kernel
theorem dX12_throwMany_148 : decode cX12_throwMany 148 = .ok (.goto (-139), 3) := by decide +kernel
theorem dX12_throwMany_151 : decode cX12_throwMany 151 = .ok (.iload_n 1, 1) := by decide +kernel
theorem dX12_throwMany_152 : decode cX12_throwMany 152 = .ok (.ireturn, 1) := by decide +kernel
theorem dX12_sets_0 : decode cX12_sets 0 = .ok (.iload_n 1, 1) := by decide +kernel
theorem dX12_sets_1 : decode cX12_sets 1 = .ok (.invokestatic 141, 3) := by decide +kernel
theorem dX12_sets_4 : decode cX12_sets 4 = .ok (.ifCond .ne 5, 3) := by decide +kernel
theorem dX12_sets_7 : decode cX12_sets 7 = .ok (.iconst (-1), 1) := by decide +kernel
theorem dX12_sets_8 : decode cX12_sets 8 = .ok (.ireturn, 1) := by decide +kernel
theorem dX12_sets_9 : decode cX12_sets 9 = .ok (.aload_n 0, 1) := by decide +kernel
theorem dX12_sets_10 : decode cX12_sets 10 = .ok (.iload_n 1, 1) := by decide +kernel
theorem dX12_sets_11 : decode cX12_sets 11 = .ok (.invokevirtual 296, 3) := by decide +kernel
theorem dX12_sets_14 : decode cX12_sets 14 = .ok (.istore_n 2, 1) := by decide +kernel
theorem dX12_sets_15 : decode cX12_sets 15 = .ok (.iload_n 2, 1) := by decide +kernel
theorem dX12_sets_16 : decode cX12_sets 16 = .ok (.ifCond .ge 5, 3) := by decide +kernel
theorem dX12_sets_19 : decode cX12_sets 19 = .ok (.iload_n 2, 1) := by decide +kernel
theorem dX12_sets_20 : decode cX12_sets 20 = .ok (.ireturn, 1) := by decide +kernel
theorem dX12_sets_21 : decode cX12_sets 21 = .ok (.aload_n 0, 1) := by decide +kernel
theorem dX12_sets_22 : decode cX12_sets 22 = .ok (.invokevirtual 329, 3) := by decide +kernel
theorem dX12_sets_25 : decode cX12_sets 25 = .ok (.sipush 4096, 3) := by decide +kernel
theorem dX12_sets_28 : decode cX12_sets 28 = .ok (.if_icmp .le 6, 3) := by decide +kernel
theorem dX12_sets_31 : decode cX12_sets 31 = .ok (.bipush (-6), 2) := by decide +kernel
theorem dX12_sets_33 : decode cX12_sets 33 = .ok (.ireturn, 1) := by decide +kernel
theorem dX12_sets_34 : decode cX12_sets 34 = .ok (.aload_n 0, 1) := by decide +kernel
theorem dX12_sets_35 : decode cX12_sets 35 = .ok (.iload_n 1, 1) := by decide +kernel
theorem dX12_sets_36 : decode cX12_sets 36 = .ok (.invokevirtual 350, 3) := by decide +kernel
theorem dX12_sets_39 : decode cX12_sets 39 = .ok (.aload_n 0, 1) := by decide +kernel
theorem dX12_sets_40 : decode cX12_sets 40 = .ok (.invokevirtual 353, 3) := by decide +kernel
theorem dX12_sets_43 : decode cX12_sets 43 = .ok (.istore_n 3, 1) := by decide +kernel
theorem dX12_sets_44 : decode cX12_sets 44 = .ok (.iconst 0, 1) := by decide +kernel
theorem dX12_sets_45 : decode cX12_sets 45 = .ok (.istore 4, 2) := by decide +kernel
theorem dX12_sets_47 : decode cX12_sets 47 = .ok (.iconst 0, 1) := by decide +kernel
theorem dX12_sets_48 : decode cX12_sets 48 = .ok (.istore 5, 2) := by decide +kernel
theorem dX12_sets_50 : decode cX12_sets 50 = .ok (.iload 5, 2) := by decide +kernel
theorem dX12_sets_52 : decode cX12_sets 52 = .ok (.aload_n 0, 1) := by decide +kernel
theorem dX12_sets_53 : decode cX12_sets 53 = .ok (.getfield 199, 3) := by decide +kernel
theorem dX12_sets_56 : decode cX12_sets 56 = .ok (.if_icmp .ge 43, 3) := by decide +kernel
theorem dX12_sets_59 : decode cX12_sets 59 = .ok (.iload 4, 2) := by decide +kernel
theorem dX12_sets_61 : decode cX12_sets 61 = .ok (.iload_n 3, 1) := by decide +kernel
theorem dX12_sets_62 : decode cX12_sets 62 = .ok (.ifCond .eq 20, 3) := by decide +kernel
theorem dX12_sets_65 : decode cX12_sets 65 = .ok (.aload_n 0, 1) := by decide +kernel
theorem dX12_sets_66 : decode cX12_sets 66 = .ok (.getfield 87, 3) := by decide +kernel
theorem dX12_sets_69 : decode cX12_sets 69 = .ok (.iload 5, 2) := by decide +kernel
theorem dX12_sets_71 : decode cX12_sets 71 = .ok (.iaload, 1) := by decide +kernel
theorem dX12_sets_72 : decode cX12_sets 72 = .ok (.aload_n 0, 1) := by decide +kernel
theorem dX12_sets_73 : decode cX12_sets 73 = .ok (.getfield 90, 3) := by decide +kernel
theorem dX12_sets_76 : decode cX12_sets 76 = .ok (.iload 5, 2) := by decide +kernel
theorem dX12_sets_78 : decode cX12_sets 78 = .ok (.iaload, 1) := by decide +kernel
theorem dX12_sets_79 : decode cX12_sets 79 = .ok (.if_icmp .ne 10, 3) := by decide +kernel
theorem dX12_sets_82 : decode cX12_sets 82 = .ok (.iconst 1, 1) := by decide +kernel
theorem dX12_sets_83 : decode cX12_sets 83 = .ok (.iload 5, 2) := by decide +kernel
theorem dX12_sets_85 : decode cX12_sets 85 = .ok (.ishl, 1) := by decide +kernel
theorem dX12_sets_86 : decode cX12_sets 86 = .ok (.goto 4, 3) := by decide +kernel
theorem dX12_sets_89 : decode cX12_sets 89 = .ok (.iconst 0, 1) := by decide +kernel
theorem dX12_sets_90 : decode cX12_sets 90 = .ok (.ior, 1) := by decide +kernel
theorem dX12_sets_91 : decode cX12_sets 91 = .ok (.istore 4, 2) := by decide +kernel
theorem dX12_sets_93 : decode cX12_sets 93 = .ok (.iinc 5 1, 3) := by decide +kernel
theorem dX12_sets_96 : decode cX12_sets 96 = .ok (.goto (-46), 3) := by decide +kernel
theorem dX12_sets_99 : decode cX12_sets 99 = .ok (.aload_n 0, 1) := by decide +kernel
theorem dX12_sets_100 : decode cX12_sets 100 = .ok (.iload 4, 2) := by decide +kernel
theorem dX12_sets_102 : decode cX12_sets 102 = .ok (.iload_n 3, 1) := by decide +kernel
theorem dX12_sets_103 : decode cX12_sets 103 = .ok (.invokevirtual 153, 3) := by decide +kernel
theorem dX12_sets_106 : decode cX12_sets 106 = .ok (.ireturn, 1) := by decide +kernel
theorem dX12_layOpen_0 : decode cX12_layOpen 0 = .ok (.aload_n 0, 1) := by decide +kernel
theorem dX12_layOpen_1 : decode cX12_layOpen 1 = .ok (.invokevirtual 329, 3) := by decide +kernel
theorem dX12_layOpen_4 : decode cX12_layOpen 4 = .ok (.istore_n 3, 1) := by decide +kernel
theorem dX12_layOpen_5 : decode cX12_layOpen 5 = .ok (.iconst 0, 1) := by decide +kernel
theorem dX12_layOpen_6 : decode cX12_layOpen 6 = .ok (.istore 4, 2) := by decide +kernel
theorem dX12_layOpen_8 : decode cX12_layOpen 8 = .ok (.iload 4, 2) := by decide +kernel
theorem dX12_layOpen_10 : decode cX12_layOpen 10 = .ok (.iload_n 3, 1) := by decide +kernel
theorem dX12_layOpen_11 : decode cX12_layOpen 11 = .ok (.if_icmp .ge 64, 3) := by decide +kernel
theorem dX12_layOpen_14 : decode cX12_layOpen 14 = .ok (.aload_n 0, 1) := by decide +kernel
theorem dX12_layOpen_15 : decode cX12_layOpen 15 = .ok (.getfield 99, 3) := by decide +kernel
theorem dX12_layOpen_18 : decode cX12_layOpen 18 = .ok (.iload 4, 2) := by decide +kernel
theorem dX12_layOpen_20 : decode cX12_layOpen 20 = .ok (.aload_n 0, 1) := by decide +kernel
theorem dX12_layOpen_21 : decode cX12_layOpen 21 = .ok (.iload 4, 2) := by decide +kernel
theorem dX12_layOpen_23 : decode cX12_layOpen 23 = .ok (.iconst (-1), 1) := by decide +kernel
theorem dX12_layOpen_24 : decode cX12_layOpen 24 = .ok (.invokevirtual 332, 3) := by decide +kernel
theorem dX12_layOpen_27 : decode cX12_layOpen 27 = .ok (.bastore, 1) := by decide +kernel
theorem dX12_layOpen_28 : decode cX12_layOpen 28 = .ok (.aload_n 0, 1) := by decide +kernel
theorem dX12_layOpen_29 : decode cX12_layOpen 29 = .ok (.getfield 99, 3) := by decide +kernel
theorem dX12_layOpen_32 : decode cX12_layOpen 32 = .ok (.iload 4, 2) := by decide +kernel
theorem dX12_layOpen_34 : decode cX12_layOpen 34 = .ok (.baload, 1) := by decide +kernel
theorem dX12_layOpen_35 : decode cX12_layOpen 35 = .ok (.ifCond .eq 34, 3) := by decide +kernel
theorem dX12_layOpen_38 : decode cX12_layOpen 38 = .ok (.iload_n 1, 1) := by decide +kernel
theorem dX12_layOpen_39 : decode cX12_layOpen 39 = .ok (.bipush (-9), 2) := by decide +kernel
theorem dX12_layOpen_41 : decode cX12_layOpen 41 = .ok (.if_icmp .eq 28, 3) := by decide +kernel
theorem dX12_layOpen_44 : decode cX12_layOpen 44 = .ok (.aload_n 0, 1) := by decide +kernel
theorem dX12_layOpen_45 : decode cX12_layOpen 45 = .ok (.invokevirtual 311, 3) := by decide +kernel
theorem dX12_layOpen_48 : decode cX12_layOpen 48 = .ok (.aload_n 0, 1) := by decide +kernel
theorem dX12_layOpen_49 : decode cX12_layOpen 49 = .ok (.getfield 99, 3) := by decide +kernel
theorem dX12_layOpen_52 : decode cX12_layOpen 52 = .ok (.iload 4, 2) := by decide +kernel
theorem dX12_layOpen_54 : decode cX12_layOpen 54 = .ok (.aload_n 0, 1) := by decide +kernel
theorem dX12_layOpen_55 : decode cX12_layOpen 55 = .ok (.iload_n 1, 1) := by decide +kernel
theorem dX12_layOpen_56 : decode cX12_layOpen 56 = .ok (.invokevirtual 326, 3) := by decide +kernel
theorem dX12_layOpen_59 : decode cX12_layOpen 59 = .ok (.iload_n 2, 1) := by decide +kernel
theorem dX12_layOpen_60 : decode cX12_layOpen 60 = .ok (.if_icmp .le 7, 3) := by decide +kernel
theorem dX12_layOpen_63 : decode cX12_layOpen 63 = .ok (.iconst 1, 1) := by decide +kernel
theorem dX12_layOpen_64 : decode cX12_layOpen 64 = .ok (.goto 4, 3) := by decide +kernel
theorem dX12_layOpen_67 : decode cX12_layOpen 67 = .ok (.iconst 0, 1) := by decide +kernel
theorem dX12_layOpen_68 : decode cX12_layOpen 68 = .ok (.bastore, 1) := by decide +kernel
theorem dX12_layOpen_69 : decode cX12_layOpen 69 = .ok (.iinc 4 1, 3) := by decide +kernel
theorem dX12_layOpen_72 : decode cX12_layOpen 72 = .ok (.goto (-64), 3) := by decide +kernel
theorem dX12_layOpen_75 : decode cX12_layOpen 75 = .ok (.return_, 1) := by decide +kernel
theorem dX12_codeOf_0 : decode cX12_codeOf 0 = .ok (.aload_n 0, 1) := by decide +kernel
theorem dX12_codeOf_1 : decode cX12_codeOf 1 = .ok (.iload_n 1, 1) := by decide +kernel
theorem dX12_codeOf_2 : decode cX12_codeOf 2 = .ok (.invokevirtual 284, 3) := by decide +kernel
theorem dX12_codeOf_5 : decode cX12_codeOf 5 = .ok (.aload_n 0, 1) := by decide +kernel
theorem dX12_codeOf_6 : decode cX12_codeOf 6 = .ok (.invokevirtual 356, 3) := by decide +kernel
theorem dX12_codeOf_9 : decode cX12_codeOf 9 = .ok (.ireturn, 1) := by decide +kernel
theorem dX12_wayBetween_0 : decode cX12_wayBetween 0 = .ok (.aload_n 0, 1) := by decide +kernel
theorem dX12_wayBetween_1 : decode cX12_wayBetween 1 = .ok (.invokevirtual 329, 3) := by decide +kernel
theorem dX12_wayBetween_4 : decode cX12_wayBetween 4 = .ok (.istore_n 3, 1) := by decide +kernel
theorem dX12_wayBetween_5 : decode cX12_wayBetween 5 = .ok (.aload_n 0, 1) := by decide +kernel
theorem dX12_wayBetween_6 : decode cX12_wayBetween 6 = .ok (.iload_n 1, 1) := by decide +kernel
theorem dX12_wayBetween_7 : decode cX12_wayBetween 7 = .ok (.iconst (-1), 1) := by decide +kernel
theorem dX12_wayBetween_8 : decode cX12_wayBetween 8 = .ok (.invokevirtual 332, 3) := by decide +kernel
theorem dX12_wayBetween_11 : decode cX12_wayBetween 11 = .ok (.ifCond .eq 12, 3) := by decide +kernel
theorem dX12_wayBetween_14 : decode cX12_wayBetween 14 = .ok (.aload_n 0, 1) := by decide +kernel
theorem dX12_wayBetween_15 : decode cX12_wayBetween 15 = .ok (.iload_n 2, 1) := by decide +kernel
theorem dX12_wayBetween_16 : decode cX12_wayBetween 16 = .ok (.iconst (-1), 1) := by decide +kernel
theorem dX12_wayBetween_17 : decode cX12_wayBetween 17 = .ok (.invokevirtual 332, 3) := by decide +kernel
theorem dX12_wayBetween_20 : decode cX12_wayBetween 20 = .ok (.ifCond .ne 6, 3) := by decide +kernel
theorem dX12_wayBetween_23 : decode cX12_wayBetween 23 = .ok (.bipush (-9), 2) := by decide +kernel
theorem dX12_wayBetween_25 : decode cX12_wayBetween 25 = .ok (.ireturn, 1) := by decide +kernel
theorem dX12_wayBetween_26 : decode cX12_wayBetween 26 = .ok (.iconst 0, 1) := by decide +kernel
theorem dX12_wayBetween_27 : decode cX12_wayBetween 27 = .ok (.istore 4, 2) := by decide +kernel
theorem dX12_wayBetween_29 : decode cX12_wayBetween 29 = .ok (.iload 4, 2) := by decide +kernel
theorem dX12_wayBetween_31 : decode cX12_wayBetween 31 = .ok (.iload_n 3, 1) := by decide +kernel
theorem dX12_wayBetween_32 : decode cX12_wayBetween 32 = .ok (.if_icmp .ge 17, 3) := by decide +kernel
theorem dX12_wayBetween_35 : decode cX12_wayBetween 35 = .ok (.aload_n 0, 1) := by decide +kernel
theorem dX12_wayBetween_36 : decode cX12_wayBetween 36 = .ok (.getfield 93, 3) := by decide +kernel
theorem dX12_wayBetween_39 : decode cX12_wayBetween 39 = .ok (.iload 4, 2) := by decide +kernel
theorem dX12_wayBetween_41 : decode cX12_wayBetween 41 = .ok (.iconst (-1), 1) := by decide +kernel
theorem dX12_wayBetween_42 : decode cX12_wayBetween 42 = .ok (.iastore, 1) := by decide +kernel
theorem dX12_wayBetween_43 : decode cX12_wayBetween 43 = .ok (.iinc 4 1, 3) := by decide +kernel
theorem dX12_wayBetween_46 : decode cX12_wayBetween 46 = .ok (.goto (-17), 3) := by decide +kernel
theorem dX12_wayBetween_49 : decode cX12_wayBetween 49 = .ok (.aload_n 0, 1) := by decide +kernel
theorem dX12_wayBetween_50 : decode cX12_wayBetween 50 = .ok (.getfield 93, 3) := by decide +kernel
theorem dX12_wayBetween_53 : decode cX12_wayBetween 53 = .ok (.iload_n 1, 1) := by decide +kernel
theorem dX12_wayBetween_54 : decode cX12_wayBetween 54 = .ok (.iconst 0, 1) := by decide +kernel
theorem dX12_wayBetween_55 : decode cX12_wayBetween 55 = .ok (.iastore, 1) := by decide +kernel
theorem dX12_wayBetween_56 : decode cX12_wayBetween 56 = .ok (.aload_n 0, 1) := by decide +kernel
theorem dX12_wayBetween_57 : decode cX12_wayBetween 57 = .ok (.getfield 96, 3) := by decide +kernel
theorem dX12_wayBetween_60 : decode cX12_wayBetween 60 = .ok (.iconst 0, 1) := by decide +kernel
theorem dX12_wayBetween_61 : decode cX12_wayBetween 61 = .ok (.iload_n 1, 1) := by decide +kernel
theorem dX12_wayBetween_62 : decode cX12_wayBetween 62 = .ok (.iastore, 1) := by decide +kernel
theorem dX12_wayBetween_63 : decode cX12_wayBetween 63 = .ok (.iconst 1, 1) := by decide +kernel
theorem dX12_wayBetween_64 : decode cX12_wayBetween 64 = .ok (.istore 4, 2) := by decide +kernel
theorem dX12_wayBetween_66 : decode cX12_wayBetween 66 = .ok (.iconst 0, 1) := by decide +kernel
theorem dX12_wayBetween_67 : decode cX12_wayBetween 67 = .ok (.istore 5, 2) := by decide +kernel
theorem dX12_wayBetween_69 : decode cX12_wayBetween 69 = .ok (.iload 5, 2) := by decide +kernel
theorem dX12_wayBetween_71 : decode cX12_wayBetween 71 = .ok (.iload 4, 2) := by decide +kernel
theorem dX12_wayBetween_73 : decode cX12_wayBetween 73 = .ok (.if_icmp .ge 178, 3) := by decide +kernel
theorem dX12_wayBetween_76 : decode cX12_wayBetween 76 = .ok (.aload_n 0, 1) := by decide +kernel
theorem dX12_wayBetween_77 : decode cX12_wayBetween 77 = .ok (.getfield 93, 3) := by decide +kernel
theorem dX12_wayBetween_80 : decode cX12_wayBetween 80 = .ok (.iload_n 2, 1) := by decide +kernel
theorem dX12_wayBetween_81 : decode cX12_wayBetween 81 = .ok (.iaload, 1) := by decide +kernel
theorem dX12_wayBetween_82 : decode cX12_wayBetween 82 = .ok (.ifCond .ge 169, 3) := by decide +kernel
theorem dX12_wayBetween_85 : decode cX12_wayBetween 85 = .ok (.aload_n 0, 1) := by decide +kernel
theorem dX12_wayBetween_86 : decode cX12_wayBetween 86 = .ok (.getfield 96, 3) := by decide +kernel
theorem dX12_wayBetween_89 : decode cX12_wayBetween 89 = .ok (.iload 5, 2) := by decide +kernel
theorem dX12_wayBetween_91 : decode cX12_wayBetween 91 = .ok (.iaload, 1) := by decide +kernel
theorem dX12_wayBetween_92 : decode cX12_wayBetween 92 = .ok (.istore 6, 2) := by decide +kernel
theorem dX12_wayBetween_94 : decode cX12_wayBetween 94 = .ok (.iconst 1, 1) := by decide +kernel
theorem dX12_wayBetween_95 : decode cX12_wayBetween 95 = .ok (.istore 7, 2) := by decide +kernel
theorem dX12_wayBetween_97 : decode cX12_wayBetween 97 = .ok (.aload_n 0, 1) := by decide +kernel
theorem dX12_wayBetween_98 : decode cX12_wayBetween 98 = .ok (.getfield 199, 3) := by decide +kernel
theorem dX12_wayBetween_101 : decode cX12_wayBetween 101 = .ok (.iconst 1, 1) := by decide +kernel
theorem dX12_wayBetween_102 : decode cX12_wayBetween 102 = .ok (.isub, 1) := by decide +kernel
theorem dX12_wayBetween_103 : decode cX12_wayBetween 103 = .ok (.istore 8, 2) := by decide +kernel
theorem dX12_wayBetween_105 : decode cX12_wayBetween 105 = .ok (.iload 8, 2) := by decide +kernel
theorem dX12_wayBetween_107 : decode cX12_wayBetween 107 = .ok (.ifCond .lt 138, 3) := by decide +kernel
theorem dX12_wayBetween_110 : decode cX12_wayBetween 110 = .ok (.aload_n 0, 1) := by decide +kernel
theorem dX12_wayBetween_111 : decode cX12_wayBetween 111 = .ok (.iload 8, 2) := by decide +kernel
theorem dX12_wayBetween_113 : decode cX12_wayBetween 113 = .ok (.invokevirtual 251, 3) := by decide +kernel
theorem dX12_wayBetween_116 : decode cX12_wayBetween 116 = .ok (.aload_n 0, 1) := by decide +kernel
theorem dX12_wayBetween_117 : decode cX12_wayBetween 117 = .ok (.iload 8, 2) := by decide +kernel
theorem dX12_wayBetween_119 : decode cX12_wayBetween 119 = .ok (.invokevirtual 254, 3) := by decide +kernel
theorem dX12_wayBetween_122 : decode cX12_wayBetween 122 = .ok (.isub, 1) := by decide +kernel
theorem dX12_wayBetween_123 : decode cX12_wayBetween 123 = .ok (.iconst 1, 1) := by decide +kernel
theorem dX12_wayBetween_124 : decode cX12_wayBetween 124 = .ok (.iadd, 1) := by decide +kernel
theorem dX12_wayBetween_125 : decode cX12_wayBetween 125 = .ok (.istore 9, 2) := by decide +kernel
theorem dX12_wayBetween_127 : decode cX12_wayBetween 127 = .ok (.iload 6, 2) := by decide +kernel
theorem dX12_wayBetween_129 : decode cX12_wayBetween 129 = .ok (.iload 7, 2) := by decide +kernel
theorem dX12_wayBetween_131 : decode cX12_wayBetween 131 = .ok (.idiv, 1) := by decide +kernel
theorem dX12_wayBetween_132 : decode cX12_wayBetween 132 = .ok (.iload 9, 2) := by decide +kernel
theorem dX12_wayBetween_134 : decode cX12_wayBetween 134 = .ok (.irem, 1) := by decide +kernel
theorem dX12_wayBetween_135 : decode cX12_wayBetween 135 = .ok (.istore 10, 2) := by decide +kernel
theorem dX12_wayBetween_137 : decode cX12_wayBetween 137 = .ok (.iconst (-1), 1) := by decide +kernel
theorem dX12_wayBetween_138 : decode cX12_wayBetween 138 = .ok (.istore 11, 2) := by decide +kernel
theorem dX12_wayBetween_140 : decode cX12_wayBetween 140 = .ok (.iload 11, 2) := by decide +kernel
theorem dX12_wayBetween_142 : decode cX12_wayBetween 142 = .ok (.iconst 1, 1) := by decide +kernel
theorem dX12_wayBetween_143 : decode cX12_wayBetween 143 = .ok (.if_icmp .gt 89, 3) := by decide +kernel
theorem dX12_wayBetween_146 : decode cX12_wayBetween 146 = .ok (.iload 6, 2) := by decide +kernel
theorem dX12_wayBetween_148 : decode cX12_wayBetween 148 = .ok (.iload 11, 2) := by decide +kernel
theorem dX12_wayBetween_150 : decode cX12_wayBetween 150 = .ok (.iload 7, 2) := by decide +kernel
theorem dX12_wayBetween_152 : decode cX12_wayBetween 152 = .ok (.imul, 1) := by decide +kernel
theorem dX12_wayBetween_153 : decode cX12_wayBetween 153 = .ok (.iadd, 1) := by decide +kernel
theorem dX12_wayBetween_154 : decode cX12_wayBetween 154 = .ok (.istore 12, 2) := by decide +kernel
theorem dX12_wayBetween_156 : decode cX12_wayBetween 156 = .ok (.iload 10, 2) := by decide +kernel
theorem dX12_wayBetween_158 : decode cX12_wayBetween 158 = .ok (.iload 11, 2) := by decide +kernel
theorem dX12_wayBetween_160 : decode cX12_wayBetween 160 = .ok (.iadd, 1) := by decide +kernel
theorem dX12_wayBetween_161 : decode cX12_wayBetween 161 = .ok (.iconst 0, 1) := by decide +kernel
theorem dX12_wayBetween_162 : decode cX12_wayBetween 162 = .ok (.iload 9, 2) := by decide +kernel
theorem dX12_wayBetween_164 : decode cX12_wayBetween 164 = .ok (.iconst 1, 1) := by decide +kernel
theorem dX12_wayBetween_165 : decode cX12_wayBetween 165 = .ok (.isub, 1) := by decide +kernel
theorem dX12_wayBetween_166 : decode cX12_wayBetween 166 = .ok (.invokestatic 131, 3) := by decide +kernel
theorem dX12_wayBetween_169 : decode cX12_wayBetween 169 = .ok (.ifCond .eq 57, 3) := by decide +kernel
theorem dX12_wayBetween_172 : decode cX12_wayBetween 172 = .ok (.aload_n 0, 1) := by decide +kernel
theorem dX12_wayBetween_173 : decode cX12_wayBetween 173 = .ok (.getfield 93, 3) := by decide +kernel
theorem dX12_wayBetween_176 : decode cX12_wayBetween 176 = .ok (.iload 12, 2) := by decide +kernel
theorem dX12_wayBetween_178 : decode cX12_wayBetween 178 = .ok (.iaload, 1) := by decide +kernel
theorem dX12_wayBetween_179 : decode cX12_wayBetween 179 = .ok (.ifCond .ge 47, 3) := by decide +kernel
theorem dX12_wayBetween_182 : decode cX12_wayBetween 182 = .ok (.aload_n 0, 1) := by decide +kernel
theorem dX12_wayBetween_183 : decode cX12_wayBetween 183 = .ok (.getfield 99, 3) := by decide +kernel
theorem dX12_wayBetween_186 : decode cX12_wayBetween 186 = .ok (.iload 12, 2) := by decide +kernel
theorem dX12_wayBetween_188 : decode cX12_wayBetween 188 = .ok (.baload, 1) := by decide +kernel
theorem dX12_wayBetween_189 : decode cX12_wayBetween 189 = .ok (.ifCond .ne 9, 3) := by decide +kernel
theorem dX12_wayBetween_192 : decode cX12_wayBetween 192 = .ok (.iload 12, 2) := by decide +kernel
theorem dX12_wayBetween_194 : decode cX12_wayBetween 194 = .ok (.iload_n 2, 1) := by decide +kernel
theorem dX12_wayBetween_195 : decode cX12_wayBetween 195 = .ok (.if_icmp .ne 31, 3) := by decide +kernel
theorem dX12_wayBetween_198 : decode cX12_wayBetween 198 = .ok (.aload_n 0, 1) := by decide +kernel
theorem dX12_wayBetween_199 : decode cX12_wayBetween 199 = .ok (.getfield 93, 3) := by decide +kernel
theorem dX12_wayBetween_202 : decode cX12_wayBetween 202 = .ok (.iload 12, 2) := by decide +kernel
theorem dX12_wayBetween_204 : decode cX12_wayBetween 204 = .ok (.aload_n 0, 1) := by decide +kernel
theorem dX12_wayBetween_205 : decode cX12_wayBetween 205 = .ok (.getfield 93, 3) := by decide +kernel
theorem dX12_wayBetween_208 : decode cX12_wayBetween 208 = .ok (.iload 6, 2) := by decide +kernel
theorem dX12_wayBetween_210 : decode cX12_wayBetween 210 = .ok (.iaload, 1) := by decide +kernel
theorem dX12_wayBetween_211 : decode cX12_wayBetween 211 = .ok (.iconst 1, 1) := by decide +kernel
theorem dX12_wayBetween_212 : decode cX12_wayBetween 212 = .ok (.iadd, 1) := by decide +kernel
theorem dX12_wayBetween_213 : decode cX12_wayBetween 213 = .ok (.iastore, 1) := by decide +kernel
theorem dX12_wayBetween_214 : decode cX12_wayBetween 214 = .ok (.aload_n 0, 1) := by decide +kernel
theorem dX12_wayBetween_215 : decode cX12_wayBetween 215 = .ok (.getfield 96, 3) := by decide +kernel
theorem dX12_wayBetween_218 : decode cX12_wayBetween 218 = .ok (.iload 4, 2) := by decide +kernel
theorem dX12_wayBetween_220 : decode cX12_wayBetween 220 = .ok (.iload 12, 2) := by decide +kernel
theorem dX12_wayBetween_222 : decode cX12_wayBetween 222 = .ok (.iastore, 1) := by decide +kernel
theorem dX12_wayBetween_223 : decode cX12_wayBetween 223 = .ok (.iinc 4 1, 3) := by decide +kernel
theorem dX12_wayBetween_226 : decode cX12_wayBetween 226 = .ok (.iinc 11 2, 3) := by decide +kernel
theorem dX12_wayBetween_229 : decode cX12_wayBetween 229 = .ok (.goto (-89), 3) := by decide +kernel
theorem dX12_wayBetween_232 : decode cX12_wayBetween 232 = .ok (.iload 7, 2) := by decide +kernel
theorem dX12_wayBetween_234 : decode cX12_wayBetween 234 = .ok (.iload 9, 2) := by decide +kernel
theorem dX12_wayBetween_236 : decode cX12_wayBetween 236 = .ok (.imul, 1) := by decide +kernel
theorem dX12_wayBetween_237 : decode cX12_wayBetween 237 = .ok (.istore 7, 2) := by decide +kernel
theorem dX12_wayBetween_239 : decode cX12_wayBetween 239 = .ok (.iinc 8 (-1), 3) := by decide +kernel
theorem dX12_wayBetween_242 : decode cX12_wayBetween 242 = .ok (.goto (-137), 3) := by decide +kernel
theorem dX12_wayBetween_245 : decode cX12_wayBetween 245 = .ok (.iinc 5 1, 3) := by decide +kernel
theorem dX12_wayBetween_248 : decode cX12_wayBetween 248 = .ok (.goto (-179), 3) := by decide +kernel
theorem dX12_wayBetween_251 : decode cX12_wayBetween 251 = .ok (.aload_n 0, 1) := by decide +kernel
theorem dX12_wayBetween_252 : decode cX12_wayBetween 252 = .ok (.getfield 93, 3) := by decide +kernel
theorem dX12_wayBetween_255 : decode cX12_wayBetween 255 = .ok (.iload_n 2, 1) := by decide +kernel
theorem dX12_wayBetween_256 : decode cX12_wayBetween 256 = .ok (.iaload, 1) := by decide +kernel
theorem dX12_wayBetween_257 : decode cX12_wayBetween 257 = .ok (.ifCond .ge 8, 3) := by decide +kernel
theorem dX12_wayBetween_260 : decode cX12_wayBetween 260 = .ok (.bipush (-9), 2) := by decide +kernel
theorem dX12_wayBetween_262 : decode cX12_wayBetween 262 = .ok (.goto 9, 3) := by decide +kernel
theorem dX12_wayBetween_265 : decode cX12_wayBetween 265 = .ok (.aload_n 0, 1) := by decide +kernel
theorem dX12_wayBetween_266 : decode cX12_wayBetween 266 = .ok (.getfield 93, 3) := by decide +kernel
theorem dX12_wayBetween_269 : decode cX12_wayBetween 269 = .ok (.iload_n 2, 1) := by decide +kernel
theorem dX12_wayBetween_270 : decode cX12_wayBetween 270 = .ok (.iaload, 1) := by decide +kernel
theorem dX12_wayBetween_271 : decode cX12_wayBetween 271 = .ok (.ireturn, 1) := by decide +kernel
theorem dX12_way_0 : decode cX12_way 0 = .ok (.aload_n 0, 1) := by decide +kernel
theorem dX12_way_1 : decode cX12_way 1 = .ok (.iload_n 1, 1) := by decide +kernel
theorem dX12_way_2 : decode cX12_way 2 = .ok (.invokevirtual 290, 3) := by decide +kernel
theorem dX12_way_5 : decode cX12_way 5 = .ok (.ifCond .eq 11, 3) := by decide +kernel
theorem dX12_way_8 : decode cX12_way 8 = .ok (.aload_n 0, 1) := by decide +kernel
theorem dX12_way_9 : decode cX12_way 9 = .ok (.iload_n 2, 1) := by decide +kernel
theorem dX12_way_10 : decode cX12_way 10 = .ok (.invokevirtual 290, 3) := by decide +kernel
theorem dX12_way_13 : decode cX12_way 13 = .ok (.ifCond .ne 5, 3) := by decide +kernel
theorem dX12_way_16 : decode cX12_way 16 = .ok (.iconst (-1), 1) := by decide +kernel
theorem dX12_way_17 : decode cX12_way 17 = .ok (.ireturn, 1) := by decide +kernel
theorem dX12_way_18 : decode cX12_way 18 = .ok (.aload_n 0, 1) := by decide +kernel
theorem dX12_way_19 : decode cX12_way 19 = .ok (.iload_n 1, 1) := by decide +kernel
theorem dX12_way_20 : decode cX12_way 20 = .ok (.invokevirtual 293, 3) := by decide +kernel
theorem dX12_way_23 : decode cX12_way 23 = .ok (.ifCond .eq 11, 3) := by decide +kernel
theorem dX12_way_26 : decode cX12_way 26 = .ok (.aload_n 0, 1) := by decide +kernel
theorem dX12_way_27 : decode cX12_way 27 = .ok (.iload_n 2, 1) := by decide +kernel
theorem dX12_way_28 : decode cX12_way 28 = .ok (.invokevirtual 293, 3) := by decide +kernel
theorem dX12_way_31 : decode cX12_way 31 = .ok (.ifCond .ne 9, 3) := by decide +kernel
theorem dX12_way_34 : decode cX12_way 34 = .ok (.aload_n 0, 1) := by decide +kernel
theorem dX12_way_35 : decode cX12_way 35 = .ok (.iconst 3, 1) := by decide +kernel
theorem dX12_way_36 : decode cX12_way 36 = .ok (.invokevirtual 145, 3) := by decide +kernel
theorem dX12_way_39 : decode cX12_way 39 = .ok (.ireturn, 1) := by decide +kernel
theorem dX12_way_40 : decode cX12_way 40 = .ok (.aload_n 0, 1) := by decide +kernel
theorem dX12_way_41 : decode cX12_way 41 = .ok (.invokevirtual 329, 3) := by decide +kernel
theorem dX12_way_44 : decode cX12_way 44 = .ok (.sipush 4096, 3) := by decide +kernel
theorem dX12_way_47 : decode cX12_way 47 = .ok (.if_icmp .le 6, 3) := by decide +kernel
theorem dX12_way_50 : decode cX12_way 50 = .ok (.bipush (-6), 2) := by decide +kernel
theorem dX12_way_52 : decode cX12_way 52 = .ok (.ireturn, 1) := by decide +kernel
theorem dX12_way_53 : decode cX12_way 53 = .ok (.aload_n 0, 1) := by decide +kernel
theorem dX12_way_54 : decode cX12_way 54 = .ok (.bipush (-9), 2) := by decide +kernel
theorem dX12_way_56 : decode cX12_way 56 = .ok (.iconst 0, 1) := by decide +kernel
theorem dX12_way_57 : decode cX12_way 57 = .ok (.invokevirtual 359, 3) := by decide +kernel
theorem dX12_way_60 : decode cX12_way 60 = .ok (.aload_n 0, 1) := by decide +kernel
theorem dX12_way_61 : decode cX12_way 61 = .ok (.aload_n 0, 1) := by decide +kernel
theorem dX12_way_62 : decode cX12_way 62 = .ok (.iload_n 1, 1) := by decide +kernel
theorem dX12_way_63 : decode cX12_way 63 = .ok (.invokevirtual 362, 3) := by decide +kernel
theorem dX12_way_66 : decode cX12_way 66 = .ok (.aload_n 0, 1) := by decide +kernel
theorem dX12_way_67 : decode cX12_way 67 = .ok (.iload_n 2, 1) := by decide +kernel
theorem dX12_way_68 : decode cX12_way 68 = .ok (.invokevirtual 362, 3) := by decide +kernel
theorem dX12_way_71 : decode cX12_way 71 = .ok (.invokevirtual 365, 3) := by decide +kernel
theorem dX12_way_74 : decode cX12_way 74 = .ok (.ireturn, 1) := by decide +kernel
theorem dX12_unseen_0 : decode cX12_unseen 0 = .ok (.aload_n 0, 1) := by decide +kernel
theorem dX12_unseen_1 : decode cX12_unseen 1 = .ok (.iload_n 1, 1) := by decide +kernel
theorem dX12_unseen_2 : decode cX12_unseen 2 = .ok (.invokevirtual 290, 3) := by decide +kernel
theorem dX12_unseen_5 : decode cX12_unseen 5 = .ok (.ifCond .eq 29, 3) := by decide +kernel
theorem dX12_unseen_8 : decode cX12_unseen 8 = .ok (.aload_n 0, 1) := by decide +kernel
theorem dX12_unseen_9 : decode cX12_unseen 9 = .ok (.iload_n 2, 1) := by decide +kernel
theorem dX12_unseen_10 : decode cX12_unseen 10 = .ok (.invokevirtual 290, 3) := by decide +kernel
theorem dX12_unseen_13 : decode cX12_unseen 13 = .ok (.ifCond .eq 21, 3) := by decide +kernel
theorem dX12_unseen_16 : decode cX12_unseen 16 = .ok (.iload_n 3, 1) := by decide +kernel
theorem dX12_unseen_17 : decode cX12_unseen 17 = .ok (.invokestatic 317, 3) := by decide +kernel
theorem dX12_unseen_20 : decode cX12_unseen 20 = .ok (.ifCond .eq 14, 3) := by decide +kernel
theorem dX12_unseen_23 : decode cX12_unseen 23 = .ok (.iload 4, 2) := by decide +kernel
theorem dX12_unseen_25 : decode cX12_unseen 25 = .ok (.iconst 0, 1) := by decide +kernel
theorem dX12_unseen_26 : decode cX12_unseen 26 = .ok (.bipush 120, 2) := by decide +kernel
theorem dX12_unseen_28 : decode cX12_unseen 28 = .ok (.invokestatic 131, 3) := by decide +kernel
theorem dX12_unseen_31 : decode cX12_unseen 31 = .ok (.ifCond .ne 5, 3) := by decide +kernel
theorem dX12_unseen_34 : decode cX12_unseen 34 = .ok (.iconst (-1), 1) := by decide +kernel
theorem dX12_unseen_35 : decode cX12_unseen 35 = .ok (.ireturn, 1) := by decide +kernel
theorem dX12_unseen_36 : decode cX12_unseen 36 = .ok (.aload_n 0, 1) := by decide +kernel
theorem dX12_unseen_37 : decode cX12_unseen 37 = .ok (.iload_n 1, 1) := by decide +kernel
theorem dX12_unseen_38 : decode cX12_unseen 38 = .ok (.invokevirtual 293, 3) := by decide +kernel
theorem dX12_unseen_41 : decode cX12_unseen 41 = .ok (.ifCond .eq 11, 3) := by decide +kernel
theorem dX12_unseen_44 : decode cX12_unseen 44 = .ok (.aload_n 0, 1) := by decide +kernel
theorem dX12_unseen_45 : decode cX12_unseen 45 = .ok (.iload_n 2, 1) := by decide +kernel
theorem dX12_unseen_46 : decode cX12_unseen 46 = .ok (.invokevirtual 293, 3) := by decide +kernel
theorem dX12_unseen_49 : decode cX12_unseen 49 = .ok (.ifCond .ne 9, 3) := by decide +kernel
theorem dX12_unseen_52 : decode cX12_unseen 52 = .ok (.aload_n 0, 1) := by decide +kernel
theorem dX12_unseen_53 : decode cX12_unseen 53 = .ok (.iconst 3, 1) := by decide +kernel
theorem dX12_unseen_54 : decode cX12_unseen 54 = .ok (.invokevirtual 145, 3) := by decide +kernel
theorem dX12_unseen_57 : decode cX12_unseen 57 = .ok (.ireturn, 1) := by decide +kernel
theorem dX12_unseen_58 : decode cX12_unseen 58 = .ok (.aload_n 0, 1) := by decide +kernel
theorem dX12_unseen_59 : decode cX12_unseen 59 = .ok (.getfield 68, 3) := by decide +kernel
theorem dX12_unseen_62 : decode cX12_unseen 62 = .ok (.iload_n 3, 1) := by decide +kernel
theorem dX12_unseen_63 : decode cX12_unseen 63 = .ok (.baload, 1) := by decide +kernel
theorem dX12_unseen_64 : decode cX12_unseen 64 = .ok (.ifCond .ne 9, 3) := by decide +kernel
theorem dX12_unseen_67 : decode cX12_unseen 67 = .ok (.aload_n 0, 1) := by decide +kernel
theorem dX12_unseen_68 : decode cX12_unseen 68 = .ok (.iconst 1, 1) := by decide +kernel
theorem dX12_unseen_69 : decode cX12_unseen 69 = .ok (.invokevirtual 145, 3) := by decide +kernel
theorem dX12_unseen_72 : decode cX12_unseen 72 = .ok (.ireturn, 1) := by decide +kernel
theorem dX12_unseen_73 : decode cX12_unseen 73 = .ok (.aload_n 0, 1) := by decide +kernel
theorem dX12_unseen_74 : decode cX12_unseen 74 = .ok (.invokevirtual 329, 3) := by decide +kernel
theorem dX12_unseen_77 : decode cX12_unseen 77 = .ok (.sipush 4096, 3) := by decide +kernel
theorem dX12_unseen_80 : decode cX12_unseen 80 = .ok (.if_icmp .le 6, 3) := by decide +kernel
theorem dX12_unseen_83 : decode cX12_unseen 83 = .ok (.bipush (-6), 2) := by decide +kernel
theorem dX12_unseen_85 : decode cX12_unseen 85 = .ok (.ireturn, 1) := by decide +kernel
theorem dX12_unseen_86 : decode cX12_unseen 86 = .ok (.aload_n 0, 1) := by decide +kernel
theorem dX12_unseen_87 : decode cX12_unseen 87 = .ok (.iload_n 3, 1) := by decide +kernel
theorem dX12_unseen_88 : decode cX12_unseen 88 = .ok (.iload 4, 2) := by decide +kernel
theorem dX12_unseen_90 : decode cX12_unseen 90 = .ok (.invokevirtual 359, 3) := by decide +kernel
theorem dX12_unseen_93 : decode cX12_unseen 93 = .ok (.aload_n 0, 1) := by decide +kernel
theorem dX12_unseen_94 : decode cX12_unseen 94 = .ok (.aload_n 0, 1) := by decide +kernel
theorem dX12_unseen_95 : decode cX12_unseen 95 = .ok (.iload_n 1, 1) := by decide +kernel
theorem dX12_unseen_96 : decode cX12_unseen 96 = .ok (.invokevirtual 362, 3) := by decide +kernel
theorem dX12_unseen_99 : decode cX12_unseen 99 = .ok (.aload_n 0, 1) := by decide +kernel
theorem dX12_unseen_100 : decode cX12_unseen 100 = .ok (.iload_n 2, 1) := by decide +kernel
theorem dX12_unseen_101 : decode cX12_unseen 101 = .ok (.invokevirtual 362, 3) := by decide +kernel
theorem dX12_unseen_104 : decode cX12_unseen 104 = .ok (.invokevirtual 365, 3) := by decide +kernel
theorem dX12_unseen_107 : decode cX12_unseen 107 = .ok (.ireturn, 1) := by decide +kernel
theorem dX12_where_0 : decode cX12_where 0 = .ok (.aload_n 0, 1) := by decide +kernel
theorem dX12_where_1 : decode cX12_where 1 = .ok (.iload_n 1, 1) := by decide +kernel
theorem dX12_where_2 : decode cX12_where 2 = .ok (.invokevirtual 290, 3) := by decide +kernel
theorem dX12_where_5 : decode cX12_where 5 = .ok (.ifCond .eq 10, 3) := by decide +kernel
theorem dX12_where_8 : decode cX12_where 8 = .ok (.iload_n 2, 1) := by decide +kernel
theorem dX12_where_9 : decode cX12_where 9 = .ok (.invokestatic 317, 3) := by decide +kernel
theorem dX12_where_12 : decode cX12_where 12 = .ok (.ifCond .ne 5, 3) := by decide +kernel
theorem dX12_where_15 : decode cX12_where 15 = .ok (.iconst (-1), 1) := by decide +kernel
theorem dX12_where_16 : decode cX12_where 16 = .ok (.ireturn, 1) := by decide +kernel
theorem dX12_where_17 : decode cX12_where 17 = .ok (.aload_n 0, 1) := by decide +kernel
theorem dX12_where_18 : decode cX12_where 18 = .ok (.getfield 68, 3) := by decide +kernel
theorem dX12_where_21 : decode cX12_where 21 = .ok (.iload_n 2, 1) := by decide +kernel
theorem dX12_where_22 : decode cX12_where 22 = .ok (.baload, 1) := by decide +kernel
theorem dX12_where_23 : decode cX12_where 23 = .ok (.ifCond .ne 9, 3) := by decide +kernel
theorem dX12_where_26 : decode cX12_where 26 = .ok (.aload_n 0, 1) := by decide +kernel
theorem dX12_where_27 : decode cX12_where 27 = .ok (.iconst 1, 1) := by decide +kernel
theorem dX12_where_28 : decode cX12_where 28 = .ok (.invokevirtual 145, 3) := by decide +kernel
theorem dX12_where_31 : decode cX12_where 31 = .ok (.ireturn, 1) := by decide +kernel
theorem dX12_where_32 : decode cX12_where 32 = .ok (.aload_n 0, 1) := by decide +kernel
theorem dX12_where_33 : decode cX12_where 33 = .ok (.invokevirtual 217, 3) := by decide +kernel
theorem dX12_where_36 : decode cX12_where 36 = .ok (.istore_n 3, 1) := by decide +kernel
theorem dX12_where_37 : decode cX12_where 37 = .ok (.bipush (-9), 2) := by decide +kernel
theorem dX12_where_39 : decode cX12_where 39 = .ok (.istore 4, 2) := by decide +kernel
theorem dX12_where_41 : decode cX12_where 41 = .ok (.iconst 0, 1) := by decide +kernel
theorem dX12_where_42 : decode cX12_where 42 = .ok (.istore 5, 2) := by decide +kernel
theorem dX12_where_44 : decode cX12_where 44 = .ok (.iconst 1, 1) := by decide +kernel
theorem dX12_where_45 : decode cX12_where 45 = .ok (.istore 6, 2) := by decide +kernel
theorem dX12_where_47 : decode cX12_where 47 = .ok (.iload 6, 2) := by decide +kernel
theorem dX12_where_49 : decode cX12_where 49 = .ok (.iconst 2, 1) := by decide +kernel
theorem dX12_where_50 : decode cX12_where 50 = .ok (.if_icmp .gt 80, 3) := by decide +kernel
theorem dX12_where_53 : decode cX12_where 53 = .ok (.iconst 0, 1) := by decide +kernel
theorem dX12_where_54 : decode cX12_where 54 = .ok (.istore 7, 2) := by decide +kernel
theorem dX12_where_56 : decode cX12_where 56 = .ok (.iload 7, 2) := by decide +kernel
theorem dX12_where_58 : decode cX12_where 58 = .ok (.bipush 49, 2) := by decide +kernel
theorem dX12_where_60 : decode cX12_where 60 = .ok (.if_icmp .ge 64, 3) := by decide +kernel
theorem dX12_where_63 : decode cX12_where 63 = .ok (.aload_n 0, 1) := by decide +kernel
theorem dX12_where_64 : decode cX12_where 64 = .ok (.iload 6, 2) := by decide +kernel
theorem dX12_where_66 : decode cX12_where 66 = .ok (.iload 7, 2) := by decide +kernel
theorem dX12_where_68 : decode cX12_where 68 = .ok (.bipush 7, 2) := by decide +kernel
theorem dX12_where_70 : decode cX12_where 70 = .ok (.idiv, 1) := by decide +kernel
theorem dX12_where_71 : decode cX12_where 71 = .ok (.iconst 3, 1) := by decide +kernel
theorem dX12_where_72 : decode cX12_where 72 = .ok (.isub, 1) := by decide +kernel
theorem dX12_where_73 : decode cX12_where 73 = .ok (.iload 7, 2) := by decide +kernel
theorem dX12_where_75 : decode cX12_where 75 = .ok (.bipush 7, 2) := by decide +kernel
theorem dX12_where_77 : decode cX12_where 77 = .ok (.irem, 1) := by decide +kernel
theorem dX12_where_78 : decode cX12_where 78 = .ok (.iconst 3, 1) := by decide +kernel
theorem dX12_where_79 : decode cX12_where 79 = .ok (.isub, 1) := by decide +kernel
theorem dX12_where_80 : decode cX12_where 80 = .ok (.invokevirtual 221, 3) := by decide +kernel
theorem dX12_where_83 : decode cX12_where 83 = .ok (.aload_n 0, 1) := by decide +kernel
theorem dX12_where_84 : decode cX12_where 84 = .ok (.iload_n 1, 1) := by decide +kernel
theorem dX12_where_85 : decode cX12_where 85 = .ok (.invokevirtual 314, 3) := by decide +kernel
theorem dX12_where_88 : decode cX12_where 88 = .ok (.iload 4, 2) := by decide +kernel
theorem dX12_where_90 : decode cX12_where 90 = .ok (.bipush (-9), 2) := by decide +kernel
theorem dX12_where_92 : decode cX12_where 92 = .ok (.if_icmp .eq 13, 3) := by decide +kernel
theorem dX12_where_95 : decode cX12_where 95 = .ok (.aload_n 0, 1) := by decide +kernel
theorem dX12_where_96 : decode cX12_where 96 = .ok (.iload_n 2, 1) := by decide +kernel
theorem dX12_where_97 : decode cX12_where 97 = .ok (.invokevirtual 326, 3) := by decide +kernel
theorem dX12_where_100 : decode cX12_where 100 = .ok (.iload 4, 2) := by decide +kernel
theorem dX12_where_102 : decode cX12_where 102 = .ok (.if_icmp .ge 16, 3) := by decide +kernel
theorem dX12_where_105 : decode cX12_where 105 = .ok (.aload_n 0, 1) := by decide +kernel
theorem dX12_where_106 : decode cX12_where 106 = .ok (.iload_n 2, 1) := by decide +kernel
theorem dX12_where_107 : decode cX12_where 107 = .ok (.invokevirtual 326, 3) := by decide +kernel
theorem dX12_where_110 : decode cX12_where 110 = .ok (.istore 4, 2) := by decide +kernel
theorem dX12_where_112 : decode cX12_where 112 = .ok (.aload_n 0, 1) := by decide +kernel
theorem dX12_where_113 : decode cX12_where 113 = .ok (.invokevirtual 217, 3) := by decide +kernel
theorem dX12_where_116 : decode cX12_where 116 = .ok (.istore 5, 2) := by decide +kernel
theorem dX12_where_118 : decode cX12_where 118 = .ok (.iinc 7 1, 3) := by decide +kernel
theorem dX12_where_121 : decode cX12_where 121 = .ok (.goto (-65), 3) := by decide +kernel
theorem dX12_where_124 : decode cX12_where 124 = .ok (.iinc 6 1, 3) := by decide +kernel
theorem dX12_where_127 : decode cX12_where 127 = .ok (.goto (-80), 3) := by decide +kernel
theorem dX12_where_130 : decode cX12_where 130 = .ok (.aload_n 0, 1) := by decide +kernel
theorem dX12_where_131 : decode cX12_where 131 = .ok (.iload_n 3, 1) := by decide +kernel
theorem dX12_where_132 : decode cX12_where 132 = .ok (.bipush 100, 2) := by decide +kernel
theorem dX12_where_134 : decode cX12_where 134 = .ok (.idiv, 1) := by decide +kernel
theorem dX12_where_135 : decode cX12_where 135 = .ok (.iload_n 3, 1) := by decide +kernel
theorem dX12_where_136 : decode cX12_where 136 = .ok (.bipush 10, 2) := by decide +kernel
theorem dX12_where_138 : decode cX12_where 138 = .ok (.idiv, 1) := by decide +kernel
theorem dX12_where_139 : decode cX12_where 139 = .ok (.bipush 10, 2) := by decide +kernel
theorem dX12_where_141 : decode cX12_where 141 = .ok (.irem, 1) := by decide +kernel
theorem dX12_where_142 : decode cX12_where 142 = .ok (.iconst 3, 1) := by decide +kernel
theorem dX12_where_143 : decode cX12_where 143 = .ok (.isub, 1) := by decide +kernel
theorem dX12_where_144 : decode cX12_where 144 = .ok (.iload_n 3, 1) := by decide +kernel
theorem dX12_where_145 : decode cX12_where 145 = .ok (.bipush 10, 2) := by decide +kernel
theorem dX12_where_147 : decode cX12_where 147 = .ok (.irem, 1) := by decide +kernel
theorem dX12_where_148 : decode cX12_where 148 = .ok (.iconst 3, 1) := by decide +kernel
theorem dX12_where_149 : decode cX12_where 149 = .ok (.isub, 1) := by decide +kernel
theorem dX12_where_150 : decode cX12_where 150 = .ok (.invokevirtual 221, 3) := by decide +kernel
theorem dX12_where_153 : decode cX12_where 153 = .ok (.aload_n 0, 1) := by decide +kernel
theorem dX12_where_154 : decode cX12_where 154 = .ok (.iload 5, 2) := by decide +kernel
theorem dX12_where_156 : decode cX12_where 156 = .ok (.iload 4, 2) := by decide +kernel
theorem dX12_where_158 : decode cX12_where 158 = .ok (.invokevirtual 153, 3) := by decide +kernel
theorem dX12_where_161 : decode cX12_where 161 = .ok (.ireturn, 1) := by decide +kernel
theorem dX12_picture_0 : decode cX12_picture 0 = .ok (.iload_n 1, 1) := by decide +kernel
theorem dX12_picture_1 : decode cX12_picture 1 = .ok (.invokestatic 141, 3) := by decide +kernel
theorem dX12_picture_4 : decode cX12_picture 4 = .ok (.ifCond .ne 5, 3) := by decide +kernel
theorem dX12_picture_7 : decode cX12_picture 7 = .ok (.iconst (-1), 1) := by decide +kernel
theorem dX12_picture_8 : decode cX12_picture 8 = .ok (.ireturn, 1) := by decide +kernel
theorem dX12_picture_9 : decode cX12_picture 9 = .ok (.aload_n 0, 1) := by decide +kernel
theorem dX12_picture_10 : decode cX12_picture 10 = .ok (.iload_n 1, 1) := by decide +kernel
theorem dX12_picture_11 : decode cX12_picture 11 = .ok (.invokevirtual 296, 3) := by decide +kernel
theorem dX12_picture_14 : decode cX12_picture 14 = .ok (.istore_n 2, 1) := by decide +kernel
theorem dX12_picture_15 : decode cX12_picture 15 = .ok (.iload_n 2, 1) := by decide +kernel
theorem dX12_picture_16 : decode cX12_picture 16 = .ok (.ifCond .ge 5, 3) := by decide +kernel
theorem dX12_picture_19 : decode cX12_picture 19 = .ok (.iload_n 2, 1) := by decide +kernel
theorem dX12_picture_20 : decode cX12_picture 20 = .ok (.ireturn, 1) := by decide +kernel
theorem dX12_picture_21 : decode cX12_picture 21 = .ok (.aload_n 0, 1) := by decide +kernel
theorem dX12_picture_22 : decode cX12_picture 22 = .ok (.invokevirtual 329, 3) := by decide +kernel
theorem dX12_picture_25 : decode cX12_picture 25 = .ok (.sipush 4096, 3) := by decide +kernel
theorem dX12_picture_28 : decode cX12_picture 28 = .ok (.if_icmp .le 6, 3) := by decide +kernel
theorem dX12_picture_31 : decode cX12_picture 31 = .ok (.bipush (-6), 2) := by decide +kernel
theorem dX12_picture_33 : decode cX12_picture 33 = .ok (.ireturn, 1) := by decide +kernel
theorem dX12_picture_34 : decode cX12_picture 34 = .ok (.aload_n 0, 1) := by decide +kernel
theorem dX12_picture_35 : decode cX12_picture 35 = .ok (.iload_n 1, 1) := by decide +kernel
theorem dX12_picture_36 : decode cX12_picture 36 = .ok (.invokevirtual 350, 3) := by decide +kernel
theorem dX12_picture_39 : decode cX12_picture 39 = .ok (.aload_n 0, 1) := by decide +kernel
theorem dX12_picture_40 : decode cX12_picture 40 = .ok (.invokevirtual 217, 3) := by decide +kernel
theorem dX12_picture_43 : decode cX12_picture 43 = .ok (.istore_n 3, 1) := by decide +kernel
theorem dX12_picture_44 : decode cX12_picture 44 = .ok (.bipush (-9), 2) := by decide +kernel
theorem dX12_picture_46 : decode cX12_picture 46 = .ok (.istore 4, 2) := by decide +kernel
theorem dX12_picture_48 : decode cX12_picture 48 = .ok (.iconst 0, 1) := by decide +kernel
theorem dX12_picture_49 : decode cX12_picture 49 = .ok (.istore 5, 2) := by decide +kernel
theorem dX12_picture_51 : decode cX12_picture 51 = .ok (.iconst 0, 1) := by decide +kernel
theorem dX12_picture_52 : decode cX12_picture 52 = .ok (.istore 6, 2) := by decide +kernel
