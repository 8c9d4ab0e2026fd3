theorem dX10_orderStops_81 : decode cX10_orderStops 81 = .ok (.iaload, 1) := by decide +kernel
theorem dX10_orderStops_82 : decode cX10_orderStops 82 = .ok (.invokevirtual 49, 3) := by decide +kernel
theorem dX10_orderStops_85 : decode cX10_orderStops 85 = .ok (.iastore, 1) := by decide +kernel
theorem dX10_orderStops_86 : decode cX10_orderStops 86 = .ok (.aload_n 0, 1) := by decide +kernel
theorem dX10_orderStops_87 : decode cX10_orderStops 87 = .ok (.getfield 26, 3) := by decide +kernel
theorem dX10_orderStops_90 : decode cX10_orderStops 90 = .ok (.iload 5, 2) := by decide +kernel
theorem dX10_orderStops_92 : decode cX10_orderStops 92 = .ok (.aaload, 1) := by decide +kernel
theorem dX10_orderStops_93 : decode cX10_orderStops 93 = .ok (.iload 4, 2) := by decide +kernel
theorem dX10_orderStops_95 : decode cX10_orderStops 95 = .ok (.aload_n 0, 1) := by decide +kernel
theorem dX10_orderStops_96 : decode cX10_orderStops 96 = .ok (.getfield 26, 3) := by decide +kernel
theorem dX10_orderStops_99 : decode cX10_orderStops 99 = .ok (.iload 4, 2) := by decide +kernel
theorem dX10_orderStops_101 : decode cX10_orderStops 101 = .ok (.aaload, 1) := by decide +kernel
theorem dX10_orderStops_102 : decode cX10_orderStops 102 = .ok (.iload 5, 2) := by decide +kernel
theorem dX10_orderStops_104 : decode cX10_orderStops 104 = .ok (.iaload, 1) := by decide +kernel
theorem dX10_orderStops_105 : decode cX10_orderStops 105 = .ok (.iastore, 1) := by decide +kernel
theorem dX10_orderStops_106 : decode cX10_orderStops 106 = .ok (.iinc 5 1, 3) := by decide +kernel
theorem dX10_orderStops_109 : decode cX10_orderStops 109 = .ok (.goto (-72), 3) := by decide +kernel
theorem dX10_orderStops_112 : decode cX10_orderStops 112 = .ok (.iinc 4 1, 3) := by decide +kernel
theorem dX10_orderStops_115 : decode cX10_orderStops 115 = .ok (.goto (-112), 3) := by decide +kernel
theorem dX10_orderStops_118 : decode cX10_orderStops 118 = .ok (.iconst 1, 1) := by decide +kernel
theorem dX10_orderStops_119 : decode cX10_orderStops 119 = .ok (.aload_n 0, 1) := by decide +kernel
theorem dX10_orderStops_120 : decode cX10_orderStops 120 = .ok (.getfield 72, 3) := by decide +kernel
theorem dX10_orderStops_123 : decode cX10_orderStops 123 = .ok (.ishl, 1) := by decide +kernel
theorem dX10_orderStops_124 : decode cX10_orderStops 124 = .ok (.iconst 1, 1) := by decide +kernel
theorem dX10_orderStops_125 : decode cX10_orderStops 125 = .ok (.isub, 1) := by decide +kernel
theorem dX10_orderStops_126 : decode cX10_orderStops 126 = .ok (.istore 4, 2) := by decide +kernel
theorem dX10_orderStops_128 : decode cX10_orderStops 128 = .ok (.iload 4, 2) := by decide +kernel
theorem dX10_orderStops_130 : decode cX10_orderStops 130 = .ok (.istore 5, 2) := by decide +kernel
theorem dX10_orderStops_132 : decode cX10_orderStops 132 = .ok (.iload 5, 2) := by decide +kernel
theorem dX10_orderStops_134 : decode cX10_orderStops 134 = .ok (.ifCond .le 68, 3) := by decide +kernel
theorem dX10_orderStops_137 : decode cX10_orderStops 137 = .ok (.iconst 0, 1) := by decide +kernel
theorem dX10_orderStops_138 : decode cX10_orderStops 138 = .ok (.istore 6, 2) := by decide +kernel
theorem dX10_orderStops_140 : decode cX10_orderStops 140 = .ok (.iload 6, 2) := by decide +kernel
theorem dX10_orderStops_142 : decode cX10_orderStops 142 = .ok (.aload_n 0, 1) := by decide +kernel
theorem dX10_orderStops_143 : decode cX10_orderStops 143 = .ok (.getfield 72, 3) := by decide +kernel
theorem dX10_orderStops_146 : decode cX10_orderStops 146 = .ok (.if_icmp .ge 50, 3) := by decide +kernel
theorem dX10_orderStops_149 : decode cX10_orderStops 149 = .ok (.aload_n 0, 1) := by decide +kernel
theorem dX10_orderStops_150 : decode cX10_orderStops 150 = .ok (.getfield 29, 3) := by decide +kernel
theorem dX10_orderStops_153 : decode cX10_orderStops 153 = .ok (.iload 5, 2) := by decide +kernel
theorem dX10_orderStops_155 : decode cX10_orderStops 155 = .ok (.bipush 8, 2) := by decide +kernel
theorem dX10_orderStops_157 : decode cX10_orderStops 157 = .ok (.imul, 1) := by decide +kernel
theorem dX10_orderStops_158 : decode cX10_orderStops 158 = .ok (.iload 6, 2) := by decide +kernel
theorem dX10_orderStops_160 : decode cX10_orderStops 160 = .ok (.iadd, 1) := by decide +kernel
theorem dX10_orderStops_161 : decode cX10_orderStops 161 = .ok (.iload 5, 2) := by decide +kernel
theorem dX10_orderStops_163 : decode cX10_orderStops 163 = .ok (.iload 4, 2) := by decide +kernel
theorem dX10_orderStops_165 : decode cX10_orderStops 165 = .ok (.if_icmp .ne 16, 3) := by decide +kernel
theorem dX10_orderStops_168 : decode cX10_orderStops 168 = .ok (.aload_n 0, 1) := by decide +kernel
theorem dX10_orderStops_169 : decode cX10_orderStops 169 = .ok (.getfield 26, 3) := by decide +kernel
theorem dX10_orderStops_172 : decode cX10_orderStops 172 = .ok (.iload 6, 2) := by decide +kernel
theorem dX10_orderStops_174 : decode cX10_orderStops 174 = .ok (.aaload, 1) := by decide +kernel
theorem dX10_orderStops_175 : decode cX10_orderStops 175 = .ok (.iload 6, 2) := by decide +kernel
theorem dX10_orderStops_177 : decode cX10_orderStops 177 = .ok (.iaload, 1) := by decide +kernel
theorem dX10_orderStops_178 : decode cX10_orderStops 178 = .ok (.goto 11, 3) := by decide +kernel
theorem dX10_orderStops_181 : decode cX10_orderStops 181 = .ok (.aload_n 0, 1) := by decide +kernel
theorem dX10_orderStops_182 : decode cX10_orderStops 182 = .ok (.iload 5, 2) := by decide +kernel
theorem dX10_orderStops_184 : decode cX10_orderStops 184 = .ok (.iload 6, 2) := by decide +kernel
theorem dX10_orderStops_186 : decode cX10_orderStops 186 = .ok (.invokevirtual 80, 3) := by decide +kernel
theorem dX10_orderStops_189 : decode cX10_orderStops 189 = .ok (.iastore, 1) := by decide +kernel
theorem dX10_orderStops_190 : decode cX10_orderStops 190 = .ok (.iinc 6 1, 3) := by decide +kernel
theorem dX10_orderStops_193 : decode cX10_orderStops 193 = .ok (.goto (-53), 3) := by decide +kernel
theorem dX10_orderStops_196 : decode cX10_orderStops 196 = .ok (.iinc 5 (-1), 3) := by decide +kernel
theorem dX10_orderStops_199 : decode cX10_orderStops 199 = .ok (.goto (-67), 3) := by decide +kernel
theorem dX10_orderStops_202 : decode cX10_orderStops 202 = .ok (.aload_n 0, 1) := by decide +kernel
theorem dX10_orderStops_203 : decode cX10_orderStops 203 = .ok (.iconst 0, 1) := by decide +kernel
theorem dX10_orderStops_204 : decode cX10_orderStops 204 = .ok (.bipush (-9), 2) := by decide +kernel
theorem dX10_orderStops_206 : decode cX10_orderStops 206 = .ok (.invokevirtual 80, 3) := by decide +kernel
theorem dX10_orderStops_209 : decode cX10_orderStops 209 = .ok (.istore 5, 2) := by decide +kernel
theorem dX10_orderStops_211 : decode cX10_orderStops 211 = .ok (.iload 5, 2) := by decide +kernel
theorem dX10_orderStops_213 : decode cX10_orderStops 213 = .ok (.ldc 79, 2) := by decide +kernel
theorem dX10_orderStops_215 : decode cX10_orderStops 215 = .ok (.if_icmp .lt 6, 3) := by decide +kernel
theorem dX10_orderStops_218 : decode cX10_orderStops 218 = .ok (.bipush (-9), 2) := by decide +kernel
theorem dX10_orderStops_220 : decode cX10_orderStops 220 = .ok (.ireturn, 1) := by decide +kernel
theorem dX10_orderStops_221 : decode cX10_orderStops 221 = .ok (.aload_n 0, 1) := by decide +kernel
theorem dX10_orderStops_222 : decode cX10_orderStops 222 = .ok (.invokevirtual 84, 3) := by decide +kernel
theorem dX10_orderStops_225 : decode cX10_orderStops 225 = .ok (.iload 5, 2) := by decide +kernel
theorem dX10_orderStops_227 : decode cX10_orderStops 227 = .ok (.ireturn, 1) := by decide +kernel
theorem dX10_restBy_0 : decode cX10_restBy 0 = .ok (.iload_n 2, 1) := by decide +kernel
theorem dX10_restBy_1 : decode cX10_restBy 1 = .ok (.bipush (-9), 2) := by decide +kernel
theorem dX10_restBy_3 : decode cX10_restBy 3 = .ok (.if_icmp .ne 7, 3) := by decide +kernel
theorem dX10_restBy_6 : decode cX10_restBy 6 = .ok (.iconst 0, 1) := by decide +kernel
theorem dX10_restBy_7 : decode cX10_restBy 7 = .ok (.goto 11, 3) := by decide +kernel
theorem dX10_restBy_10 : decode cX10_restBy 10 = .ok (.aload_n 0, 1) := by decide +kernel
theorem dX10_restBy_11 : decode cX10_restBy 11 = .ok (.getfield 26, 3) := by decide +kernel
theorem dX10_restBy_14 : decode cX10_restBy 14 = .ok (.iload_n 2, 1) := by decide +kernel
theorem dX10_restBy_15 : decode cX10_restBy 15 = .ok (.aaload, 1) := by decide +kernel
theorem dX10_restBy_16 : decode cX10_restBy 16 = .ok (.iload_n 3, 1) := by decide +kernel
theorem dX10_restBy_17 : decode cX10_restBy 17 = .ok (.iaload, 1) := by decide +kernel
theorem dX10_restBy_18 : decode cX10_restBy 18 = .ok (.aload_n 0, 1) := by decide +kernel
theorem dX10_restBy_19 : decode cX10_restBy 19 = .ok (.getfield 29, 3) := by decide +kernel
theorem dX10_restBy_22 : decode cX10_restBy 22 = .ok (.iload_n 1, 1) := by decide +kernel
theorem dX10_restBy_23 : decode cX10_restBy 23 = .ok (.iconst 1, 1) := by decide +kernel
theorem dX10_restBy_24 : decode cX10_restBy 24 = .ok (.iload_n 3, 1) := by decide +kernel
theorem dX10_restBy_25 : decode cX10_restBy 25 = .ok (.ishl, 1) := by decide +kernel
theorem dX10_restBy_26 : decode cX10_restBy 26 = .ok (.ior, 1) := by decide +kernel
theorem dX10_restBy_27 : decode cX10_restBy 27 = .ok (.bipush 8, 2) := by decide +kernel
theorem dX10_restBy_29 : decode cX10_restBy 29 = .ok (.imul, 1) := by decide +kernel
theorem dX10_restBy_30 : decode cX10_restBy 30 = .ok (.iload_n 3, 1) := by decide +kernel
theorem dX10_restBy_31 : decode cX10_restBy 31 = .ok (.iadd, 1) := by decide +kernel
theorem dX10_restBy_32 : decode cX10_restBy 32 = .ok (.iaload, 1) := by decide +kernel
theorem dX10_restBy_33 : decode cX10_restBy 33 = .ok (.iadd, 1) := by decide +kernel
theorem dX10_restBy_34 : decode cX10_restBy 34 = .ok (.ireturn, 1) := by decide +kernel
theorem dX10_leastRest_0 : decode cX10_leastRest 0 = .ok (.ldc 79, 2) := by decide +kernel
theorem dX10_leastRest_2 : decode cX10_leastRest 2 = .ok (.istore_n 3, 1) := by decide +kernel
theorem dX10_leastRest_3 : decode cX10_leastRest 3 = .ok (.iconst 0, 1) := by decide +kernel
theorem dX10_leastRest_4 : decode cX10_leastRest 4 = .ok (.istore 4, 2) := by decide +kernel
theorem dX10_leastRest_6 : decode cX10_leastRest 6 = .ok (.iload 4, 2) := by decide +kernel
theorem dX10_leastRest_8 : decode cX10_leastRest 8 = .ok (.aload_n 0, 1) := by decide +kernel
theorem dX10_leastRest_9 : decode cX10_leastRest 9 = .ok (.getfield 72, 3) := by decide +kernel
theorem dX10_leastRest_12 : decode cX10_leastRest 12 = .ok (.if_icmp .ge 31, 3) := by decide +kernel
theorem dX10_leastRest_15 : decode cX10_leastRest 15 = .ok (.iload_n 1, 1) := by decide +kernel
theorem dX10_leastRest_16 : decode cX10_leastRest 16 = .ok (.iload 4, 2) := by decide +kernel
theorem dX10_leastRest_18 : decode cX10_leastRest 18 = .ok (.ishr, 1) := by decide +kernel
theorem dX10_leastRest_19 : decode cX10_leastRest 19 = .ok (.iconst 1, 1) := by decide +kernel
theorem dX10_leastRest_20 : decode cX10_leastRest 20 = .ok (.iand, 1) := by decide +kernel
theorem dX10_leastRest_21 : decode cX10_leastRest 21 = .ok (.ifCond .ne 16, 3) := by decide +kernel
theorem dX10_leastRest_24 : decode cX10_leastRest 24 = .ok (.iload_n 3, 1) := by decide +kernel
theorem dX10_leastRest_25 : decode cX10_leastRest 25 = .ok (.aload_n 0, 1) := by decide +kernel
theorem dX10_leastRest_26 : decode cX10_leastRest 26 = .ok (.iload_n 1, 1) := by decide +kernel
theorem dX10_leastRest_27 : decode cX10_leastRest 27 = .ok (.iload_n 2, 1) := by decide +kernel
theorem dX10_leastRest_28 : decode cX10_leastRest 28 = .ok (.iload 4, 2) := by decide +kernel
theorem dX10_leastRest_30 : decode cX10_leastRest 30 = .ok (.invokevirtual 87, 3) := by decide +kernel
theorem dX10_leastRest_33 : decode cX10_leastRest 33 = .ok (.invokestatic 91, 3) := by decide +kernel
theorem dX10_leastRest_36 : decode cX10_leastRest 36 = .ok (.istore_n 3, 1) := by decide +kernel
theorem dX10_leastRest_37 : decode cX10_leastRest 37 = .ok (.iinc 4 1, 3) := by decide +kernel
theorem dX10_leastRest_40 : decode cX10_leastRest 40 = .ok (.goto (-34), 3) := by decide +kernel
theorem dX10_leastRest_43 : decode cX10_leastRest 43 = .ok (.iload_n 3, 1) := by decide +kernel
theorem dX10_leastRest_44 : decode cX10_leastRest 44 = .ok (.ireturn, 1) := by decide +kernel
theorem dX10_putInOrder_0 : decode cX10_putInOrder 0 = .ok (.iconst 0, 1) := by decide +kernel
theorem dX10_putInOrder_1 : decode cX10_putInOrder 1 = .ok (.istore_n 1, 1) := by decide +kernel
theorem dX10_putInOrder_2 : decode cX10_putInOrder 2 = .ok (.bipush (-9), 2) := by decide +kernel
theorem dX10_putInOrder_4 : decode cX10_putInOrder 4 = .ok (.istore_n 2, 1) := by decide +kernel
theorem dX10_putInOrder_5 : decode cX10_putInOrder 5 = .ok (.iconst 0, 1) := by decide +kernel
theorem dX10_putInOrder_6 : decode cX10_putInOrder 6 = .ok (.istore_n 3, 1) := by decide +kernel
theorem dX10_putInOrder_7 : decode cX10_putInOrder 7 = .ok (.iload_n 3, 1) := by decide +kernel
theorem dX10_putInOrder_8 : decode cX10_putInOrder 8 = .ok (.aload_n 0, 1) := by decide +kernel
theorem dX10_putInOrder_9 : decode cX10_putInOrder 9 = .ok (.getfield 72, 3) := by decide +kernel
theorem dX10_putInOrder_12 : decode cX10_putInOrder 12 = .ok (.if_icmp .ge 40, 3) := by decide +kernel
theorem dX10_putInOrder_15 : decode cX10_putInOrder 15 = .ok (.aload_n 0, 1) := by decide +kernel
theorem dX10_putInOrder_16 : decode cX10_putInOrder 16 = .ok (.iload_n 1, 1) := by decide +kernel
theorem dX10_putInOrder_17 : decode cX10_putInOrder 17 = .ok (.iload_n 2, 1) := by decide +kernel
theorem dX10_putInOrder_18 : decode cX10_putInOrder 18 = .ok (.invokevirtual 96, 3) := by decide +kernel
theorem dX10_putInOrder_21 : decode cX10_putInOrder 21 = .ok (.istore 4, 2) := by decide +kernel
theorem dX10_putInOrder_23 : decode cX10_putInOrder 23 = .ok (.aload_n 0, 1) := by decide +kernel
theorem dX10_putInOrder_24 : decode cX10_putInOrder 24 = .ok (.getfield 32, 3) := by decide +kernel
theorem dX10_putInOrder_27 : decode cX10_putInOrder 27 = .ok (.iload_n 3, 1) := by decide +kernel
theorem dX10_putInOrder_28 : decode cX10_putInOrder 28 = .ok (.aload_n 0, 1) := by decide +kernel
theorem dX10_putInOrder_29 : decode cX10_putInOrder 29 = .ok (.getfield 18, 3) := by decide +kernel
theorem dX10_putInOrder_32 : decode cX10_putInOrder 32 = .ok (.iload 4, 2) := by decide +kernel
theorem dX10_putInOrder_34 : decode cX10_putInOrder 34 = .ok (.iaload, 1) := by decide +kernel
theorem dX10_putInOrder_35 : decode cX10_putInOrder 35 = .ok (.iastore, 1) := by decide +kernel
theorem dX10_putInOrder_36 : decode cX10_putInOrder 36 = .ok (.iload_n 1, 1) := by decide +kernel
theorem dX10_putInOrder_37 : decode cX10_putInOrder 37 = .ok (.iconst 1, 1) := by decide +kernel
theorem dX10_putInOrder_38 : decode cX10_putInOrder 38 = .ok (.iload 4, 2) := by decide +kernel
theorem dX10_putInOrder_40 : decode cX10_putInOrder 40 = .ok (.ishl, 1) := by decide +kernel
theorem dX10_putInOrder_41 : decode cX10_putInOrder 41 = .ok (.ior, 1) := by decide +kernel
theorem dX10_putInOrder_42 : decode cX10_putInOrder 42 = .ok (.istore_n 1, 1) := by decide +kernel
theorem dX10_putInOrder_43 : decode cX10_putInOrder 43 = .ok (.iload 4, 2) := by decide +kernel
theorem dX10_putInOrder_45 : decode cX10_putInOrder 45 = .ok (.istore_n 2, 1) := by decide +kernel
theorem dX10_putInOrder_46 : decode cX10_putInOrder 46 = .ok (.iinc 3 1, 3) := by decide +kernel
theorem dX10_putInOrder_49 : decode cX10_putInOrder 49 = .ok (.goto (-42), 3) := by decide +kernel
theorem dX10_putInOrder_52 : decode cX10_putInOrder 52 = .ok (.return_, 1) := by decide +kernel
theorem dX10_firstNext_0 : decode cX10_firstNext 0 = .ok (.aload_n 0, 1) := by decide +kernel
theorem dX10_firstNext_1 : decode cX10_firstNext 1 = .ok (.iload_n 1, 1) := by decide +kernel
theorem dX10_firstNext_2 : decode cX10_firstNext 2 = .ok (.iload_n 2, 1) := by decide +kernel
theorem dX10_firstNext_3 : decode cX10_firstNext 3 = .ok (.invokevirtual 80, 3) := by decide +kernel
theorem dX10_firstNext_6 : decode cX10_firstNext 6 = .ok (.istore_n 3, 1) := by decide +kernel
theorem dX10_firstNext_7 : decode cX10_firstNext 7 = .ok (.iconst 0, 1) := by decide +kernel
theorem dX10_firstNext_8 : decode cX10_firstNext 8 = .ok (.istore 4, 2) := by decide +kernel
theorem dX10_firstNext_10 : decode cX10_firstNext 10 = .ok (.iload 4, 2) := by decide +kernel
theorem dX10_firstNext_12 : decode cX10_firstNext 12 = .ok (.aload_n 0, 1) := by decide +kernel
theorem dX10_firstNext_13 : decode cX10_firstNext 13 = .ok (.getfield 72, 3) := by decide +kernel
theorem dX10_firstNext_16 : decode cX10_firstNext 16 = .ok (.if_icmp .ge 33, 3) := by decide +kernel
theorem dX10_firstNext_19 : decode cX10_firstNext 19 = .ok (.iload_n 1, 1) := by decide +kernel
theorem dX10_firstNext_20 : decode cX10_firstNext 20 = .ok (.iload 4, 2) := by decide +kernel
theorem dX10_firstNext_22 : decode cX10_firstNext 22 = .ok (.ishr, 1) := by decide +kernel
theorem dX10_firstNext_23 : decode cX10_firstNext 23 = .ok (.iconst 1, 1) := by decide +kernel
theorem dX10_firstNext_24 : decode cX10_firstNext 24 = .ok (.iand, 1) := by decide +kernel
theorem dX10_firstNext_25 : decode cX10_firstNext 25 = .ok (.ifCond .ne 18, 3) := by decide +kernel
theorem dX10_firstNext_28 : decode cX10_firstNext 28 = .ok (.aload_n 0, 1) := by decide +kernel
theorem dX10_firstNext_29 : decode cX10_firstNext 29 = .ok (.iload_n 1, 1) := by decide +kernel
theorem dX10_firstNext_30 : decode cX10_firstNext 30 = .ok (.iload_n 2, 1) := by decide +kernel
theorem dX10_firstNext_31 : decode cX10_firstNext 31 = .ok (.iload 4, 2) := by decide +kernel
theorem dX10_firstNext_33 : decode cX10_firstNext 33 = .ok (.invokevirtual 87, 3) := by decide +kernel
theorem dX10_firstNext_36 : decode cX10_firstNext 36 = .ok (.iload_n 3, 1) := by decide +kernel
theorem dX10_firstNext_37 : decode cX10_firstNext 37 = .ok (.if_icmp .ne 6, 3) := by decide +kernel
theorem dX10_firstNext_40 : decode cX10_firstNext 40 = .ok (.iload 4, 2) := by decide +kernel
theorem dX10_firstNext_42 : decode cX10_firstNext 42 = .ok (.ireturn, 1) := by decide +kernel
theorem dX10_firstNext_43 : decode cX10_firstNext 43 = .ok (.iinc 4 1, 3) := by decide +kernel
theorem dX10_firstNext_46 : decode cX10_firstNext 46 = .ok (.goto (-36), 3) := by decide +kernel
theorem dX10_firstNext_49 : decode cX10_firstNext 49 = .ok (.iconst 0, 1) := by decide +kernel
theorem dX10_firstNext_50 : decode cX10_firstNext 50 = .ok (.ireturn, 1) := by decide +kernel
theorem dX11_init_0 : decode cX11_init 0 = .ok (.aload_n 0, 1) := by decide +kernel
theorem dX11_init_1 : decode cX11_init 1 = .ok (.invokespecial 3, 3) := by decide +kernel
theorem dX11_init_4 : decode cX11_init 4 = .ok (.aload_n 0, 1) := by decide +kernel
theorem dX11_init_5 : decode cX11_init 5 = .ok (.new 9, 3) := by decide +kernel
theorem dX11_init_8 : decode cX11_init 8 = .ok (.dup, 1) := by decide +kernel
theorem dX11_init_9 : decode cX11_init 9 = .ok (.invokespecial 11, 3) := by decide +kernel
theorem dX11_init_12 : decode cX11_init 12 = .ok (.putfield 12, 3) := by decide +kernel
theorem dX11_init_15 : decode cX11_init 15 = .ok (.aload_n 0, 1) := by decide +kernel
theorem dX11_init_16 : decode cX11_init 16 = .ok (.bipush 6, 2) := by decide +kernel
theorem dX11_init_18 : decode cX11_init 18 = .ok (.anewarray 16, 3) := by decide +kernel
theorem dX11_init_21 : decode cX11_init 21 = .ok (.putfield 18, 3) := by decide +kernel
theorem dX11_init_24 : decode cX11_init 24 = .ok (.iconst 0, 1) := by decide +kernel
theorem dX11_init_25 : decode cX11_init 25 = .ok (.istore_n 1, 1) := by decide +kernel
theorem dX11_init_26 : decode cX11_init 26 = .ok (.iload_n 1, 1) := by decide +kernel
theorem dX11_init_27 : decode cX11_init 27 = .ok (.bipush 6, 2) := by decide +kernel
theorem dX11_init_29 : decode cX11_init 29 = .ok (.if_icmp .ge 24, 3) := by decide +kernel
theorem dX11_init_32 : decode cX11_init 32 = .ok (.aload_n 0, 1) := by decide +kernel
theorem dX11_init_33 : decode cX11_init 33 = .ok (.getfield 18, 3) := by decide +kernel
theorem dX11_init_36 : decode cX11_init 36 = .ok (.iload_n 1, 1) := by decide +kernel
theorem dX11_init_37 : decode cX11_init 37 = .ok (.new 16, 3) := by decide +kernel
theorem dX11_init_40 : decode cX11_init 40 = .ok (.dup, 1) := by decide +kernel
theorem dX11_init_41 : decode cX11_init 41 = .ok (.bipush 40, 2) := by decide +kernel
theorem dX11_init_43 : decode cX11_init 43 = .ok (.invokespecial 22, 3) := by decide +kernel
theorem dX11_init_46 : decode cX11_init 46 = .ok (.aastore, 1) := by decide +kernel
theorem dX11_init_47 : decode cX11_init 47 = .ok (.iinc 1 1, 3) := by decide +kernel
theorem dX11_init_50 : decode cX11_init 50 = .ok (.goto (-24), 3) := by decide +kernel
theorem dX11_init_53 : decode cX11_init 53 = .ok (.aload_n 0, 1) := by decide +kernel
theorem dX11_init_54 : decode cX11_init 54 = .ok (.iconst 4, 1) := by decide +kernel
theorem dX11_init_55 : decode cX11_init 55 = .ok (.anewarray 16, 3) := by decide +kernel
theorem dX11_init_58 : decode cX11_init 58 = .ok (.putfield 25, 3) := by decide +kernel
theorem dX11_init_61 : decode cX11_init 61 = .ok (.iconst 0, 1) := by decide +kernel
theorem dX11_init_62 : decode cX11_init 62 = .ok (.istore_n 1, 1) := by decide +kernel
theorem dX11_init_63 : decode cX11_init 63 = .ok (.iload_n 1, 1) := by decide +kernel
theorem dX11_init_64 : decode cX11_init 64 = .ok (.iconst 4, 1) := by decide +kernel
theorem dX11_init_65 : decode cX11_init 65 = .ok (.if_icmp .ge 24, 3) := by decide +kernel
theorem dX11_init_68 : decode cX11_init 68 = .ok (.aload_n 0, 1) := by decide +kernel
theorem dX11_init_69 : decode cX11_init 69 = .ok (.getfield 25, 3) := by decide +kernel
theorem dX11_init_72 : decode cX11_init 72 = .ok (.iload_n 1, 1) := by decide +kernel
theorem dX11_init_73 : decode cX11_init 73 = .ok (.new 16, 3) := by decide +kernel
theorem dX11_init_76 : decode cX11_init 76 = .ok (.dup, 1) := by decide +kernel
theorem dX11_init_77 : decode cX11_init 77 = .ok (.bipush 80, 2) := by decide +kernel
theorem dX11_init_79 : decode cX11_init 79 = .ok (.invokespecial 22, 3) := by decide +kernel
theorem dX11_init_82 : decode cX11_init 82 = .ok (.aastore, 1) := by decide +kernel
theorem dX11_init_83 : decode cX11_init 83 = .ok (.iinc 1 1, 3) := by decide +kernel
theorem dX11_init_86 : decode cX11_init 86 = .ok (.goto (-23), 3) := by decide +kernel
theorem dX11_init_89 : decode cX11_init 89 = .ok (.aload_n 0, 1) := by decide +kernel
theorem dX11_init_90 : decode cX11_init 90 = .ok (.new 28, 3) := by decide +kernel
theorem dX11_init_93 : decode cX11_init 93 = .ok (.dup, 1) := by decide +kernel
theorem dX11_init_94 : decode cX11_init 94 = .ok (.invokespecial 30, 3) := by decide +kernel
theorem dX11_init_97 : decode cX11_init 97 = .ok (.putfield 31, 3) := by decide +kernel
theorem dX11_init_100 : decode cX11_init 100 = .ok (.aload_n 0, 1) := by decide +kernel
theorem dX11_init_101 : decode cX11_init 101 = .ok (.new 35, 3) := by decide +kernel
theorem dX11_init_104 : decode cX11_init 104 = .ok (.dup, 1) := by decide +kernel
theorem dX11_init_105 : decode cX11_init 105 = .ok (.invokespecial 37, 3) := by decide +kernel
theorem dX11_init_108 : decode cX11_init 108 = .ok (.putfield 38, 3) := by decide +kernel
theorem dX11_init_111 : decode cX11_init 111 = .ok (.aload_n 0, 1) := by decide +kernel
theorem dX11_init_112 : decode cX11_init 112 = .ok (.new 35, 3) := by decide +kernel
theorem dX11_init_115 : decode cX11_init 115 = .ok (.dup, 1) := by decide +kernel
theorem dX11_init_116 : decode cX11_init 116 = .ok (.invokespecial 37, 3) := by decide +kernel
theorem dX11_init_119 : decode cX11_init 119 = .ok (.putfield 42, 3) := by decide +kernel
theorem dX11_init_122 : decode cX11_init 122 = .ok (.aload_n 0, 1) := by decide +kernel
theorem dX11_init_123 : decode cX11_init 123 = .ok (.new 45, 3) := by decide +kernel
theorem dX11_init_126 : decode cX11_init 126 = .ok (.dup, 1) := by decide +kernel
theorem dX11_init_127 : decode cX11_init 127 = .ok (.invokespecial 47, 3) := by decide +kernel
theorem dX11_init_130 : decode cX11_init 130 = .ok (.putfield 48, 3) := by decide +kernel
theorem dX11_init_133 : decode cX11_init 133 = .ok (.aload_n 0, 1) := by decide +kernel
theorem dX11_init_134 : decode cX11_init 134 = .ok (.new 45, 3) := by decide +kernel
theorem dX11_init_137 : decode cX11_init 137 = .ok (.dup, 1) := by decide +kernel
theorem dX11_init_138 : decode cX11_init 138 = .ok (.invokespecial 47, 3) := by decide +kernel
theorem dX11_init_141 : decode cX11_init 141 = .ok (.putfield 52, 3) := by decide +kernel
theorem dX11_init_144 : decode cX11_init 144 = .ok (.aload_n 0, 1) := by decide +kernel
theorem dX11_init_145 : decode cX11_init 145 = .ok (.bipush 99, 2) := by decide +kernel
theorem dX11_init_147 : decode cX11_init 147 = .ok (.putfield 55, 3) := by decide +kernel
theorem dX11_init_150 : decode cX11_init 150 = .ok (.aload_n 0, 1) := by decide +kernel
theorem dX11_init_151 : decode cX11_init 151 = .ok (.bipush 12, 2) := by decide +kernel
theorem dX11_init_153 : decode cX11_init 153 = .ok (.anewarray 59, 3) := by decide +kernel
theorem dX11_init_156 : decode cX11_init 156 = .ok (.putfield 61, 3) := by decide +kernel
theorem dX11_init_159 : decode cX11_init 159 = .ok (.iconst 0, 1) := by decide +kernel
theorem dX11_init_160 : decode cX11_init 160 = .ok (.istore_n 1, 1) := by decide +kernel
theorem dX11_init_161 : decode cX11_init 161 = .ok (.iload_n 1, 1) := by decide +kernel
theorem dX11_init_162 : decode cX11_init 162 = .ok (.bipush 12, 2) := by decide +kernel
theorem dX11_init_164 : decode cX11_init 164 = .ok (.if_icmp .ge 22, 3) := by decide +kernel
theorem dX11_init_167 : decode cX11_init 167 = .ok (.aload_n 0, 1) := by decide +kernel
theorem dX11_init_168 : decode cX11_init 168 = .ok (.getfield 61, 3) := by decide +kernel
theorem dX11_init_171 : decode cX11_init 171 = .ok (.iload_n 1, 1) := by decide +kernel
theorem dX11_init_172 : decode cX11_init 172 = .ok (.new 59, 3) := by decide +kernel
theorem dX11_init_175 : decode cX11_init 175 = .ok (.dup, 1) := by decide +kernel
theorem dX11_init_176 : decode cX11_init 176 = .ok (.invokespecial 65, 3) := by decide +kernel
theorem dX11_init_179 : decode cX11_init 179 = .ok (.aastore, 1) := by decide +kernel
theorem dX11_init_180 : decode cX11_init 180 = .ok (.iinc 1 1, 3) := by decide +kernel
theorem dX11_init_183 : decode cX11_init 183 = .ok (.goto (-22), 3) := by decide +kernel
theorem dX11_init_186 : decode cX11_init 186 = .ok (.aload_n 0, 1) := by decide +kernel
theorem dX11_init_187 : decode cX11_init 187 = .ok (.bipush 6, 2) := by decide +kernel
theorem dX11_init_189 : decode cX11_init 189 = .ok (.anewarray 66, 3) := by decide +kernel
theorem dX11_init_192 : decode cX11_init 192 = .ok (.putfield 68, 3) := by decide +kernel
theorem dX11_init_195 : decode cX11_init 195 = .ok (.iconst 0, 1) := by decide +kernel
theorem dX11_init_196 : decode cX11_init 196 = .ok (.istore_n 1, 1) := by decide +kernel
theorem dX11_init_197 : decode cX11_init 197 = .ok (.iload_n 1, 1) := by decide +kernel
theorem dX11_init_198 : decode cX11_init 198 = .ok (.bipush 6, 2) := by decide +kernel
theorem dX11_init_200 : decode cX11_init 200 = .ok (.if_icmp .ge 22, 3) := by decide +kernel
theorem dX11_init_203 : decode cX11_init 203 = .ok (.aload_n 0, 1) := by decide +kernel
theorem dX11_init_204 : decode cX11_init 204 = .ok (.getfield 68, 3) := by decide +kernel
theorem dX11_init_207 : decode cX11_init 207 = .ok (.iload_n 1, 1) := by decide +kernel
theorem dX11_init_208 : decode cX11_init 208 = .ok (.new 66, 3) := by decide +kernel
theorem dX11_init_211 : decode cX11_init 211 = .ok (.dup, 1) := by decide +kernel
theorem dX11_init_212 : decode cX11_init 212 = .ok (.invokespecial 72, 3) := by decide +kernel
theorem dX11_init_215 : decode cX11_init 215 = .ok (.aastore, 1) := by decide +kernel
theorem dX11_init_216 : decode cX11_init 216 = .ok (.iinc 1 1, 3) := by decide +kernel
theorem dX11_init_219 : decode cX11_init 219 = .ok (.goto (-22), 3) := by decide +kernel
theorem dX11_init_222 : decode cX11_init 222 = .ok (.aload_n 0, 1) := by decide +kernel
theorem dX11_init_223 : decode cX11_init 223 = .ok (.new 73, 3) := by decide +kernel
theorem dX11_init_226 : decode cX11_init 226 = .ok (.dup, 1) := by decide +kernel
theorem dX11_init_227 : decode cX11_init 227 = .ok (.invokespecial 75, 3) := by decide +kernel
theorem dX11_init_230 : decode cX11_init 230 = .ok (.putfield 76, 3) := by decide +kernel
theorem dX11_init_233 : decode cX11_init 233 = .ok (.aload_n 0, 1) := by decide +kernel
theorem dX11_init_234 : decode cX11_init 234 = .ok (.new 80, 3) := by decide +kernel
theorem dX11_init_237 : decode cX11_init 237 = .ok (.dup, 1) := by decide +kernel
theorem dX11_init_238 : decode cX11_init 238 = .ok (.invokespecial 82, 3) := by decide +kernel
theorem dX11_init_241 : decode cX11_init 241 = .ok (.putfield 83, 3) := by decide +kernel
theorem dX11_init_244 : decode cX11_init 244 = .ok (.aload_n 0, 1) := by decide +kernel
theorem dX11_init_245 : decode cX11_init 245 = .ok (.new 87, 3) := by decide +kernel
theorem dX11_init_248 : decode cX11_init 248 = .ok (.dup, 1) := by decide +kernel
theorem dX11_init_249 : decode cX11_init 249 = .ok (.invokespecial 89, 3) := by decide +kernel
theorem dX11_init_252 : decode cX11_init 252 = .ok (.putfield 90, 3) := by decide +kernel
theorem dX11_init_255 : decode cX11_init 255 = .ok (.aload_n 0, 1) := by decide +kernel
theorem dX11_init_256 : decode cX11_init 256 = .ok (.new 94, 3) := by decide +kernel
theorem dX11_init_259 : decode cX11_init 259 = .ok (.dup, 1) := by decide +kernel
theorem dX11_init_260 : decode cX11_init 260 = .ok (.invokespecial 96, 3) := by decide +kernel
theorem dX11_init_263 : decode cX11_init 263 = .ok (.putfield 97, 3) := by decide +kernel
theorem dX11_init_266 : decode cX11_init 266 = .ok (.aload_n 0, 1) := by decide +kernel
theorem dX11_init_267 : decode cX11_init 267 = .ok (.new 94, 3) := by decide +kernel
theorem dX11_init_270 : decode cX11_init 270 = .ok (.dup, 1) := by decide +kernel
theorem dX11_init_271 : decode cX11_init 271 = .ok (.invokespecial 96, 3) := by decide +kernel
theorem dX11_init_274 : decode cX11_init 274 = .ok (.putfield 101, 3) := by decide +kernel
theorem dX11_init_277 : decode cX11_init 277 = .ok (.aload_n 0, 1) := by decide +kernel
theorem dX11_init_278 : decode cX11_init 278 = .ok (.new 94, 3) := by decide +kernel
theorem dX11_init_281 : decode cX11_init 281 = .ok (.dup, 1) := by decide +kernel
theorem dX11_init_282 : decode cX11_init 282 = .ok (.invokespecial 96, 3) := by decide +kernel
theorem dX11_init_285 : decode cX11_init 285 = .ok (.putfield 104, 3) := by decide +kernel
theorem dX11_init_288 : decode cX11_init 288 = .ok (.return_, 1) := by decide +kernel
theorem dX11_row_0 : decode cX11_row 0 = .ok (.iload_n 1, 1) := by decide +kernel
theorem dX11_row_1 : decode cX11_row 1 = .ok (.invokestatic 107, 3) := by decide +kernel
theorem dX11_row_4 : decode cX11_row 4 = .ok (.ifCond .eq 9, 3) := by decide +kernel
theorem dX11_row_7 : decode cX11_row 7 = .ok (.iload_n 2, 1) := by decide +kernel
theorem dX11_row_8 : decode cX11_row 8 = .ok (.bipush 40, 2) := by decide +kernel
theorem dX11_row_10 : decode cX11_row 10 = .ok (.if_icmp .le 5, 3) := by decide +kernel
theorem dX11_row_13 : decode cX11_row 13 = .ok (.iconst (-1), 1) := by decide +kernel
theorem dX11_row_14 : decode cX11_row 14 = .ok (.ireturn, 1) := by decide +kernel
theorem dX11_row_15 : decode cX11_row 15 = .ok (.iload_n 2, 1) := by decide +kernel
theorem dX11_row_16 : decode cX11_row 16 = .ok (.ifCond .ge 12, 3) := by decide +kernel
theorem dX11_row_19 : decode cX11_row 19 = .ok (.aload_n 0, 1) := by decide +kernel
theorem dX11_row_20 : decode cX11_row 20 = .ok (.getfield 12, 3) := by decide +kernel
theorem dX11_row_23 : decode cX11_row 23 = .ok (.iconst 5, 1) := by decide +kernel
theorem dX11_row_24 : decode cX11_row 24 = .ok (.invokevirtual 111, 3) := by decide +kernel
theorem dX11_row_27 : decode cX11_row 27 = .ok (.ireturn, 1) := by decide +kernel
theorem dX11_row_28 : decode cX11_row 28 = .ok (.aload_n 0, 1) := by decide +kernel
theorem dX11_row_29 : decode cX11_row 29 = .ok (.getfield 18, 3) := by decide +kernel
theorem dX11_row_32 : decode cX11_row 32 = .ok (.iload_n 1, 1) := by decide +kernel
theorem dX11_row_33 : decode cX11_row 33 = .ok (.aaload, 1) := by decide +kernel
theorem dX11_row_34 : decode cX11_row 34 = .ok (.iload_n 2, 1) := by decide +kernel
theorem dX11_row_35 : decode cX11_row 35 = .ok (.iconst 0, 1) := by decide +kernel
theorem dX11_row_36 : decode cX11_row 36 = .ok (.invokevirtual 115, 3) := by decide +kernel
theorem dX11_row_39 : decode cX11_row 39 = .ok (.iload_n 2, 1) := by decide +kernel
theorem dX11_row_40 : decode cX11_row 40 = .ok (.ireturn, 1) := by decide +kernel
theorem dX11_lay_0 : decode cX11_lay 0 = .ok (.iload_n 1, 1) := by decide +kernel
theorem dX11_lay_1 : decode cX11_lay 1 = .ok (.invokestatic 107, 3) := by decide +kernel
theorem dX11_lay_4 : decode cX11_lay 4 = .ok (.ifCond .ne 5, 3) := by decide +kernel
theorem dX11_lay_7 : decode cX11_lay 7 = .ok (.iconst (-1), 1) := by decide +kernel
theorem dX11_lay_8 : decode cX11_lay 8 = .ok (.ireturn, 1) := by decide +kernel
theorem dX11_lay_9 : decode cX11_lay 9 = .ok (.aload_n 0, 1) := by decide +kernel
theorem dX11_lay_10 : decode cX11_lay 10 = .ok (.getfield 18, 3) := by decide +kernel
theorem dX11_lay_13 : decode cX11_lay 13 = .ok (.iload_n 1, 1) := by decide +kernel
theorem dX11_lay_14 : decode cX11_lay 14 = .ok (.aaload, 1) := by decide +kernel
theorem dX11_lay_15 : decode cX11_lay 15 = .ok (.astore 4, 2) := by decide +kernel
theorem dX11_lay_17 : decode cX11_lay 17 = .ok (.aload 4, 2) := by decide +kernel
theorem dX11_lay_19 : decode cX11_lay 19 = .ok (.invokevirtual 119, 3) := by decide +kernel
theorem dX11_lay_22 : decode cX11_lay 22 = .ok (.ifCond .ne 12, 3) := by decide +kernel
theorem dX11_lay_25 : decode cX11_lay 25 = .ok (.aload_n 0, 1) := by decide +kernel
theorem dX11_lay_26 : decode cX11_lay 26 = .ok (.getfield 12, 3) := by decide +kernel
theorem dX11_lay_29 : decode cX11_lay 29 = .ok (.iconst 1, 1) := by decide +kernel
theorem dX11_lay_30 : decode cX11_lay 30 = .ok (.invokevirtual 111, 3) := by decide +kernel
theorem dX11_lay_33 : decode cX11_lay 33 = .ok (.ireturn, 1) := by decide +kernel
theorem dX11_lay_34 : decode cX11_lay 34 = .ok (.aload 4, 2) := by decide +kernel
theorem dX11_lay_36 : decode cX11_lay 36 = .ok (.iload_n 2, 1) := by decide +kernel
theorem dX11_lay_37 : decode cX11_lay 37 = .ok (.invokevirtual 123, 3) := by decide +kernel
theorem dX11_lay_40 : decode cX11_lay 40 = .ok (.ifCond .ne 12, 3) := by decide +kernel
theorem dX11_lay_43 : decode cX11_lay 43 = .ok (.aload_n 0, 1) := by decide +kernel
theorem dX11_lay_44 : decode cX11_lay 44 = .ok (.getfield 12, 3) := by decide +kernel
theorem dX11_lay_47 : decode cX11_lay 47 = .ok (.iconst 2, 1) := by decide +kernel
theorem dX11_lay_48 : decode cX11_lay 48 = .ok (.invokevirtual 111, 3) := by decide +kernel
theorem dX11_lay_51 : decode cX11_lay 51 = .ok (.ireturn, 1) := by decide +kernel
theorem dX11_lay_52 : decode cX11_lay 52 = .ok (.aload 4, 2) := by decide +kernel
theorem dX11_lay_54 : decode cX11_lay 54 = .ok (.iload_n 2, 1) := by decide +kernel
theorem dX11_lay_55 : decode cX11_lay 55 = .ok (.invokevirtual 126, 3) := by decide +kernel
theorem dX11_lay_58 : decode cX11_lay 58 = .ok (.istore 5, 2) := by decide +kernel
theorem dX11_lay_60 : decode cX11_lay 60 = .ok (.aload 4, 2) := by decide +kernel
theorem dX11_lay_62 : decode cX11_lay 62 = .ok (.iload_n 2, 1) := by decide +kernel
theorem dX11_lay_63 : decode cX11_lay 63 = .ok (.iload_n 3, 1) := by decide +kernel
theorem dX11_lay_64 : decode cX11_lay 64 = .ok (.invokevirtual 129, 3) := by decide +kernel
theorem dX11_lay_67 : decode cX11_lay 67 = .ok (.aload_n 0, 1) := by decide +kernel
theorem dX11_lay_68 : decode cX11_lay 68 = .ok (.getfield 12, 3) := by decide +kernel
theorem dX11_lay_71 : decode cX11_lay 71 = .ok (.iload 5, 2) := by decide +kernel
theorem dX11_lay_73 : decode cX11_lay 73 = .ok (.invokevirtual 132, 3) := by decide +kernel
theorem dX11_lay_76 : decode cX11_lay 76 = .ok (.ireturn, 1) := by decide +kernel
theorem dX11_at_0 : decode cX11_at 0 = .ok (.iload_n 1, 1) := by decide +kernel
theorem dX11_at_1 : decode cX11_at 1 = .ok (.invokestatic 107, 3) := by decide +kernel
theorem dX11_at_4 : decode cX11_at 4 = .ok (.ifCond .ne 5, 3) := by decide +kernel
theorem dX11_at_7 : decode cX11_at 7 = .ok (.iconst (-1), 1) := by decide +kernel
theorem dX11_at_8 : decode cX11_at 8 = .ok (.ireturn, 1) := by decide +kernel
theorem dX11_at_9 : decode cX11_at 9 = .ok (.aload_n 0, 1) := by decide +kernel
theorem dX11_at_10 : decode cX11_at 10 = .ok (.getfield 18, 3) := by decide +kernel
theorem dX11_at_13 : decode cX11_at 13 = .ok (.iload_n 1, 1) := by decide +kernel
theorem dX11_at_14 : decode cX11_at 14 = .ok (.aaload, 1) := by decide +kernel
theorem dX11_at_15 : decode cX11_at 15 = .ok (.astore_n 3, 1) := by decide +kernel
theorem dX11_at_16 : decode cX11_at 16 = .ok (.aload_n 3, 1) := by decide +kernel
theorem dX11_at_17 : decode cX11_at 17 = .ok (.invokevirtual 119, 3) := by decide +kernel
theorem dX11_at_20 : decode cX11_at 20 = .ok (.ifCond .ne 12, 3) := by decide +kernel
theorem dX11_at_23 : decode cX11_at 23 = .ok (.aload_n 0, 1) := by decide +kernel
theorem dX11_at_24 : decode cX11_at 24 = .ok (.getfield 12, 3) := by decide +kernel
theorem dX11_at_27 : decode cX11_at 27 = .ok (.iconst 1, 1) := by decide +kernel
theorem dX11_at_28 : decode cX11_at 28 = .ok (.invokevirtual 111, 3) := by decide +kernel
theorem dX11_at_31 : decode cX11_at 31 = .ok (.ireturn, 1) := by decide +kernel
theorem dX11_at_32 : decode cX11_at 32 = .ok (.aload_n 3, 1) := by decide +kernel
theorem dX11_at_33 : decode cX11_at 33 = .ok (.iload_n 2, 1) := by decide +kernel
theorem dX11_at_34 : decode cX11_at 34 = .ok (.invokevirtual 123, 3) := by decide +kernel
theorem dX11_at_37 : decode cX11_at 37 = .ok (.ifCond .ne 12, 3) := by decide +kernel
theorem dX11_at_40 : decode cX11_at 40 = .ok (.aload_n 0, 1) := by decide +kernel
theorem dX11_at_41 : decode cX11_at 41 = .ok (.getfield 12, 3) := by decide +kernel
theorem dX11_at_44 : decode cX11_at 44 = .ok (.iconst 2, 1) := by decide +kernel
theorem dX11_at_45 : decode cX11_at 45 = .ok (.invokevirtual 111, 3) := by decide +kernel
theorem dX11_at_48 : decode cX11_at 48 = .ok (.ireturn, 1) := by decide +kernel
theorem dX11_at_49 : decode cX11_at 49 = .ok (.aload_n 0, 1) := by decide +kernel
theorem dX11_at_50 : decode cX11_at 50 = .ok (.getfield 12, 3) := by decide +kernel
theorem dX11_at_53 : decode cX11_at 53 = .ok (.aload_n 3, 1) := by decide +kernel
theorem dX11_at_54 : decode cX11_at 54 = .ok (.iload_n 2, 1) := by decide +kernel
theorem dX11_at_55 : decode cX11_at 55 = .ok (.invokevirtual 126, 3) := by decide +kernel
theorem dX11_at_58 : decode cX11_at 58 = .ok (.invokevirtual 132, 3) := by decide +kernel
theorem dX11_at_61 : decode cX11_at 61 = .ok (.ireturn, 1) := by decide +kernel
theorem dX11_tear_0 : decode cX11_tear 0 = .ok (.iload_n 1, 1) := by decide +kernel
theorem dX11_tear_1 : decode cX11_tear 1 = .ok (.invokestatic 107, 3) := by decide +kernel
theorem dX11_tear_4 : decode cX11_tear 4 = .ok (.ifCond .ne 5, 3) := by decide +kernel
theorem dX11_tear_7 : decode cX11_tear 7 = .ok (.iconst (-1), 1) := by decide +kernel
theorem dX11_tear_8 : decode cX11_tear 8 = .ok (.ireturn, 1) := by decide +kernel
theorem dX11_tear_9 : decode cX11_tear 9 = .ok (.aload_n 0, 1) := by decide +kernel
theorem dX11_tear_10 : decode cX11_tear 10 = .ok (.getfield 18, 3) := by decide +kernel
theorem dX11_tear_13 : decode cX11_tear 13 = .ok (.iload_n 1, 1) := by decide +kernel
theorem dX11_tear_14 : decode cX11_tear 14 = .ok (.aaload, 1) := by decide +kernel
theorem dX11_tear_15 : decode cX11_tear 15 = .ok (.invokevirtual 119, 3) := by decide +kernel
theorem dX11_tear_18 : decode cX11_tear 18 = .ok (.ifCond .ne 12, 3) := by decide +kernel
theorem dX11_tear_21 : decode cX11_tear 21 = .ok (.aload_n 0, 1) := by decide +kernel
theorem dX11_tear_22 : decode cX11_tear 22 = .ok (.getfield 12, 3) := by decide +kernel
theorem dX11_tear_25 : decode cX11_tear 25 = .ok (.iconst 1, 1) := by decide +kernel
theorem dX11_tear_26 : decode cX11_tear 26 = .ok (.invokevirtual 111, 3) := by decide +kernel
theorem dX11_tear_29 : decode cX11_tear 29 = .ok (.ireturn, 1) := by decide +kernel
theorem dX11_tear_30 : decode cX11_tear 30 = .ok (.aload_n 0, 1) := by decide +kernel
theorem dX11_tear_31 : decode cX11_tear 31 = .ok (.getfield 18, 3) := by decide +kernel
theorem dX11_tear_34 : decode cX11_tear 34 = .ok (.iload_n 1, 1) := by decide +kernel
theorem dX11_tear_35 : decode cX11_tear 35 = .ok (.aaload, 1) := by decide +kernel
theorem dX11_tear_36 : decode cX11_tear 36 = .ok (.invokevirtual 135, 3) := by decide +kernel
theorem dX11_tear_39 : decode cX11_tear 39 = .ok (.iconst 1, 1) := by decide +kernel
theorem dX11_tear_40 : decode cX11_tear 40 = .ok (.ireturn, 1) := by decide +kernel
theorem dX11_copy_0 : decode cX11_copy 0 = .ok (.iload_n 1, 1) := by decide +kernel
theorem dX11_copy_1 : decode cX11_copy 1 = .ok (.invokestatic 107, 3) := by decide +kernel
theorem dX11_copy_4 : decode cX11_copy 4 = .ok (.ifCond .eq 10, 3) := by decide +kernel
theorem dX11_copy_7 : decode cX11_copy 7 = .ok (.iload_n 3, 1) := by decide +kernel
theorem dX11_copy_8 : decode cX11_copy 8 = .ok (.invokestatic 107, 3) := by decide +kernel
theorem dX11_copy_11 : decode cX11_copy 11 = .ok (.ifCond .ne 5, 3) := by decide +kernel
theorem dX11_copy_14 : decode cX11_copy 14 = .ok (.iconst (-1), 1) := by decide +kernel
theorem dX11_copy_15 : decode cX11_copy 15 = .ok (.ireturn, 1) := by decide +kernel
theorem dX11_copy_16 : decode cX11_copy 16 = .ok (.iload 5, 2) := by decide +kernel
theorem dX11_copy_18 : decode cX11_copy 18 = .ok (.ifCond .ge 12, 3) := by decide +kernel
theorem dX11_copy_21 : decode cX11_copy 21 = .ok (.aload_n 0, 1) := by decide +kernel
theorem dX11_copy_22 : decode cX11_copy 22 = .ok (.getfield 12, 3) := by decide +kernel
theorem dX11_copy_25 : decode cX11_copy 25 = .ok (.iconst 5, 1) := by decide +kernel
theorem dX11_copy_26 : decode cX11_copy 26 = .ok (.invokevirtual 111, 3) := by decide +kernel
theorem dX11_copy_29 : decode cX11_copy 29 = .ok (.ireturn, 1) := by decide +kernel
theorem dX11_copy_30 : decode cX11_copy 30 = .ok (.aload_n 0, 1) := by decide +kernel
theorem dX11_copy_31 : decode cX11_copy 31 = .ok (.getfield 18, 3) := by decide +kernel
theorem dX11_copy_34 : decode cX11_copy 34 = .ok (.iload_n 1, 1) := by decide +kernel
theorem dX11_copy_35 : decode cX11_copy 35 = .ok (.aaload, 1) := by decide +kernel
theorem dX11_copy_36 : decode cX11_copy 36 = .ok (.invokevirtual 119, 3) := by decide +kernel
theorem dX11_copy_39 : decode cX11_copy 39 = .ok (.ifCond .eq 15, 3) := by decide +kernel
theorem dX11_copy_42 : decode cX11_copy 42 = .ok (.aload_n 0, 1) := by decide +kernel
theorem dX11_copy_43 : decode cX11_copy 43 = .ok (.getfield 18, 3) := by decide +kernel
theorem dX11_copy_46 : decode cX11_copy 46 = .ok (.iload_n 3, 1) := by decide +kernel
theorem dX11_copy_47 : decode cX11_copy 47 = .ok (.aaload, 1) := by decide +kernel
theorem dX11_copy_48 : decode cX11_copy 48 = .ok (.invokevirtual 119, 3) := by decide +kernel
theorem dX11_copy_51 : decode cX11_copy 51 = .ok (.ifCond .ne 12, 3) := by decide +kernel
theorem dX11_copy_54 : decode cX11_copy 54 = .ok (.aload_n 0, 1) := by decide +kernel
theorem dX11_copy_55 : decode cX11_copy 55 = .ok (.getfield 12, 3) := by decide +kernel
theorem dX11_copy_58 : decode cX11_copy 58 = .ok (.iconst 1, 1) := by decide +kernel
theorem dX11_copy_59 : decode cX11_copy 59 = .ok (.invokevirtual 111, 3) := by decide +kernel
theorem dX11_copy_62 : decode cX11_copy 62 = .ok (.ireturn, 1) := by decide +kernel
theorem dX11_copy_63 : decode cX11_copy 63 = .ok (.aload_n 0, 1) := by decide +kernel
theorem dX11_copy_64 : decode cX11_copy 64 = .ok (.getfield 18, 3) := by decide +kernel
theorem dX11_copy_67 : decode cX11_copy 67 = .ok (.iload_n 1, 1) := by decide +kernel
theorem dX11_copy_68 : decode cX11_copy 68 = .ok (.aaload, 1) := by decide +kernel
theorem dX11_copy_69 : decode cX11_copy 69 = .ok (.iload_n 2, 1) := by decide +kernel
theorem dX11_copy_70 : decode cX11_copy 70 = .ok (.iload 5, 2) := by decide +kernel
theorem dX11_copy_72 : decode cX11_copy 72 = .ok (.invokevirtual 138, 3) := by decide +kernel
theorem dX11_copy_75 : decode cX11_copy 75 = .ok (.ifCond .eq 19, 3) := by decide +kernel
theorem dX11_copy_78 : decode cX11_copy 78 = .ok (.aload_n 0, 1) := by decide +kernel
theorem dX11_copy_79 : decode cX11_copy 79 = .ok (.getfield 18, 3) := by decide +kernel
theorem dX11_copy_82 : decode cX11_copy 82 = .ok (.iload_n 3, 1) := by decide +kernel
theorem dX11_copy_83 : decode cX11_copy 83 = .ok (.aaload, 1) := by decide +kernel
theorem dX11_copy_84 : decode cX11_copy 84 = .ok (.iload 4, 2) := by decide +kernel
theorem dX11_copy_86 : decode cX11_copy 86 = .ok (.iload 5, 2) := by decide +kernel
theorem dX11_copy_88 : decode cX11_copy 88 = .ok (.invokevirtual 138, 3) := by decide +kernel
theorem dX11_copy_91 : decode cX11_copy 91 = .ok (.ifCond .ne 12, 3) := by decide +kernel
theorem dX11_copy_94 : decode cX11_copy 94 = .ok (.aload_n 0, 1) := by decide +kernel
theorem dX11_copy_95 : decode cX11_copy 95 = .ok (.getfield 12, 3) := by decide +kernel
theorem dX11_copy_98 : decode cX11_copy 98 = .ok (.iconst 2, 1) := by decide +kernel
theorem dX11_copy_99 : decode cX11_copy 99 = .ok (.invokevirtual 111, 3) := by decide +kernel
theorem dX11_copy_102 : decode cX11_copy 102 = .ok (.ireturn, 1) := by decide +kernel
theorem dX11_copy_103 : decode cX11_copy 103 = .ok (.aload_n 0, 1) := by decide +kernel
theorem dX11_copy_104 : decode cX11_copy 104 = .ok (.getfield 18, 3) := by decide +kernel
theorem dX11_copy_107 : decode cX11_copy 107 = .ok (.iload_n 3, 1) := by decide +kernel
theorem dX11_copy_108 : decode cX11_copy 108 = .ok (.aaload, 1) := by decide +kernel
theorem dX11_copy_109 : decode cX11_copy 109 = .ok (.iload 4, 2) := by decide +kernel
theorem dX11_copy_111 : decode cX11_copy 111 = .ok (.aload_n 0, 1) := by decide +kernel
theorem dX11_copy_112 : decode cX11_copy 112 = .ok (.getfield 18, 3) := by decide +kernel
theorem dX11_copy_115 : decode cX11_copy 115 = .ok (.iload_n 1, 1) := by decide +kernel
theorem dX11_copy_116 : decode cX11_copy 116 = .ok (.aaload, 1) := by decide +kernel
theorem dX11_copy_117 : decode cX11_copy 117 = .ok (.iload_n 2, 1) := by decide +kernel
theorem dX11_copy_118 : decode cX11_copy 118 = .ok (.iload 5, 2) := by decide +kernel
theorem dX11_copy_120 : decode cX11_copy 120 = .ok (.invokevirtual 142, 3) := by decide +kernel
theorem dX11_copy_123 : decode cX11_copy 123 = .ok (.iconst 1, 1) := by decide +kernel
theorem dX11_copy_124 : decode cX11_copy 124 = .ok (.ireturn, 1) := by decide +kernel
theorem dX11_mean_0 : decode cX11_mean 0 = .ok (.iload_n 1, 1) := by decide +kernel
theorem dX11_mean_1 : decode cX11_mean 1 = .ok (.invokestatic 107, 3) := by decide +kernel
theorem dX11_mean_4 : decode cX11_mean 4 = .ok (.ifCond .ne 5, 3) := by decide +kernel
theorem dX11_mean_7 : decode cX11_mean 7 = .ok (.iconst (-1), 1) := by decide +kernel
theorem dX11_mean_8 : decode cX11_mean 8 = .ok (.ireturn, 1) := by decide +kernel
theorem dX11_mean_9 : decode cX11_mean 9 = .ok (.aload_n 0, 1) := by decide +kernel
theorem dX11_mean_10 : decode cX11_mean 10 = .ok (.getfield 18, 3) := by decide +kernel
theorem dX11_mean_13 : decode cX11_mean 13 = .ok (.iload_n 1, 1) := by decide +kernel
theorem dX11_mean_14 : decode cX11_mean 14 = .ok (.aaload, 1) := by decide +kernel
theorem dX11_mean_15 : decode cX11_mean 15 = .ok (.astore_n 2, 1) := by decide +kernel
theorem dX11_mean_16 : decode cX11_mean 16 = .ok (.aload_n 2, 1) := by decide +kernel
theorem dX11_mean_17 : decode cX11_mean 17 = .ok (.invokevirtual 119, 3) := by decide +kernel
theorem dX11_mean_20 : decode cX11_mean 20 = .ok (.ifCond .ne 12, 3) := by decide +kernel
theorem dX11_mean_23 : decode cX11_mean 23 = .ok (.aload_n 0, 1) := by decide +kernel
theorem dX11_mean_24 : decode cX11_mean 24 = .ok (.getfield 12, 3) := by decide +kernel
theorem dX11_mean_27 : decode cX11_mean 27 = .ok (.iconst 1, 1) := by decide +kernel
theorem dX11_mean_28 : decode cX11_mean 28 = .ok (.invokevirtual 111, 3) := by decide +kernel
theorem dX11_mean_31 : decode cX11_mean 31 = .ok (.ireturn, 1) := by decide +kernel
theorem dX11_mean_32 : decode cX11_mean 32 = .ok (.aload_n 2, 1) := by decide +kernel
theorem dX11_mean_33 : decode cX11_mean 33 = .ok (.getfield 146, 3) := by decide +kernel
theorem dX11_mean_36 : decode cX11_mean 36 = .ok (.iconst 1, 1) := by decide +kernel
theorem dX11_mean_37 : decode cX11_mean 37 = .ok (.if_icmp .ge 12, 3) := by decide +kernel
theorem dX11_mean_40 : decode cX11_mean 40 = .ok (.aload_n 0, 1) := by decide +kernel
theorem dX11_mean_41 : decode cX11_mean 41 = .ok (.getfield 12, 3) := by decide +kernel
theorem dX11_mean_44 : decode cX11_mean 44 = .ok (.iconst 4, 1) := by decide +kernel
theorem dX11_mean_45 : decode cX11_mean 45 = .ok (.invokevirtual 111, 3) := by decide +kernel
theorem dX11_mean_48 : decode cX11_mean 48 = .ok (.ireturn, 1) := by decide +kernel
theorem dX11_mean_49 : decode cX11_mean 49 = .ok (.aload_n 0, 1) := by decide +kernel
theorem dX11_mean_50 : decode cX11_mean 50 = .ok (.getfield 12, 3) := by decide +kernel
theorem dX11_mean_53 : decode cX11_mean 53 = .ok (.aload_n 2, 1) := by decide +kernel
theorem dX11_mean_54 : decode cX11_mean 54 = .ok (.invokevirtual 149, 3) := by decide +kernel
theorem dX11_mean_57 : decode cX11_mean 57 = .ok (.aload_n 2, 1) := by decide +kernel
theorem dX11_mean_58 : decode cX11_mean 58 = .ok (.getfield 146, 3) := by decide +kernel
theorem dX11_mean_61 : decode cX11_mean 61 = .ok (.i2l, 1) := by decide +kernel
theorem dX11_mean_62 : decode cX11_mean 62 = .ok (.ldiv, 1) := by decide +kernel
theorem dX11_mean_63 : decode cX11_mean 63 = .ok (.l2i, 1) := by decide +kernel
theorem dX11_mean_64 : decode cX11_mean 64 = .ok (.invokevirtual 132, 3) := by decide +kernel
theorem dX11_mean_67 : decode cX11_mean 67 = .ok (.ireturn, 1) := by decide +kernel
theorem dX11_text_0 : decode cX11_text 0 = .ok (.iload_n 1, 1) := by decide +kernel
theorem dX11_text_1 : decode cX11_text 1 = .ok (.invokestatic 153, 3) := by decide +kernel
theorem dX11_text_4 : decode cX11_text 4 = .ok (.ifCond .eq 9, 3) := by decide +kernel
theorem dX11_text_7 : decode cX11_text 7 = .ok (.iload_n 2, 1) := by decide +kernel
theorem dX11_text_8 : decode cX11_text 8 = .ok (.bipush 80, 2) := by decide +kernel
theorem dX11_text_10 : decode cX11_text 10 = .ok (.if_icmp .le 5, 3) := by decide +kernel
theorem dX11_text_13 : decode cX11_text 13 = .ok (.iconst (-1), 1) := by decide +kernel
theorem dX11_text_14 : decode cX11_text 14 = .ok (.ireturn, 1) := by decide +kernel
theorem dX11_text_15 : decode cX11_text 15 = .ok (.iload_n 2, 1) := by decide +kernel
theorem dX11_text_16 : decode cX11_text 16 = .ok (.ifCond .ge 12, 3) := by decide +kernel
theorem dX11_text_19 : decode cX11_text 19 = .ok (.aload_n 0, 1) := by decide +kernel
theorem dX11_text_20 : decode cX11_text 20 = .ok (.getfield 12, 3) := by decide +kernel
theorem dX11_text_23 : decode cX11_text 23 = .ok (.iconst 5, 1) := by decide +kernel
theorem dX11_text_24 : decode cX11_text 24 = .ok (.invokevirtual 111, 3) := by decide +kernel
theorem dX11_text_27 : decode cX11_text 27 = .ok (.ireturn, 1) := by decide +kernel
theorem dX11_text_28 : decode cX11_text 28 = .ok (.aload_n 0, 1) := by decide +kernel
theorem dX11_text_29 : decode cX11_text 29 = .ok (.getfield 25, 3) := by decide +kernel
theorem dX11_text_32 : decode cX11_text 32 = .ok (.iload_n 1, 1) := by decide +kernel
theorem dX11_text_33 : decode cX11_text 33 = .ok (.aaload, 1) := by decide +kernel
theorem dX11_text_34 : decode cX11_text 34 = .ok (.iload_n 2, 1) := by decide +kernel
theorem dX11_text_35 : decode cX11_text 35 = .ok (.bipush 32, 2) := by decide +kernel
theorem dX11_text_37 : decode cX11_text 37 = .ok (.invokevirtual 115, 3) := by decide +kernel
theorem dX11_text_40 : decode cX11_text 40 = .ok (.iload_n 2, 1) := by decide +kernel
theorem dX11_text_41 : decode cX11_text 41 = .ok (.ireturn, 1) := by decide +kernel
theorem dX11_put_0 : decode cX11_put 0 = .ok (.iload_n 1, 1) := by decide +kernel
theorem dX11_put_1 : decode cX11_put 1 = .ok (.invokestatic 153, 3) := by decide +kernel
theorem dX11_put_4 : decode cX11_put 4 = .ok (.ifCond .ne 5, 3) := by decide +kernel
theorem dX11_put_7 : decode cX11_put 7 = .ok (.iconst (-1), 1) := by decide +kernel
theorem dX11_put_8 : decode cX11_put 8 = .ok (.ireturn, 1) := by decide +kernel
theorem dX11_put_9 : decode cX11_put 9 = .ok (.aload_n 0, 1) := by decide +kernel
theorem dX11_put_10 : decode cX11_put 10 = .ok (.getfield 25, 3) := by decide +kernel
theorem dX11_put_13 : decode cX11_put 13 = .ok (.iload_n 1, 1) := by decide +kernel
theorem dX11_put_14 : decode cX11_put 14 = .ok (.aaload, 1) := by decide +kernel
theorem dX11_put_15 : decode cX11_put 15 = .ok (.astore 4, 2) := by decide +kernel
theorem dX11_put_17 : decode cX11_put 17 = .ok (.aload 4, 2) := by decide +kernel
theorem dX11_put_19 : decode cX11_put 19 = .ok (.invokevirtual 119, 3) := by decide +kernel
theorem dX11_put_22 : decode cX11_put 22 = .ok (.ifCond .ne 12, 3) := by decide +kernel
theorem dX11_put_25 : decode cX11_put 25 = .ok (.aload_n 0, 1) := by decide +kernel
theorem dX11_put_26 : decode cX11_put 26 = .ok (.getfield 12, 3) := by decide +kernel
theorem dX11_put_29 : decode cX11_put 29 = .ok (.iconst 1, 1) := by decide +kernel
theorem dX11_put_30 : decode cX11_put 30 = .ok (.invokevirtual 111, 3) := by decide +kernel
theorem dX11_put_33 : decode cX11_put 33 = .ok (.ireturn, 1) := by decide +kernel
theorem dX11_put_34 : decode cX11_put 34 = .ok (.aload 4, 2) := by decide +kernel
theorem dX11_put_36 : decode cX11_put 36 = .ok (.iload_n 2, 1) := by decide +kernel
theorem dX11_put_37 : decode cX11_put 37 = .ok (.invokevirtual 123, 3) := by decide +kernel
theorem dX11_put_40 : decode cX11_put 40 = .ok (.ifCond .ne 12, 3) := by decide +kernel
theorem dX11_put_43 : decode cX11_put 43 = .ok (.aload_n 0, 1) := by decide +kernel
theorem dX11_put_44 : decode cX11_put 44 = .ok (.getfield 12, 3) := by decide +kernel
theorem dX11_put_47 : decode cX11_put 47 = .ok (.iconst 2, 1) := by decide +kernel
theorem dX11_put_48 : decode cX11_put 48 = .ok (.invokevirtual 111, 3) := by decide +kernel
theorem dX11_put_51 : decode cX11_put 51 = .ok (.ireturn, 1) := by decide +kernel
theorem dX11_put_52 : decode cX11_put 52 = .ok (.aload 4, 2) := by decide +kernel
theorem dX11_put_54 : decode cX11_put 54 = .ok (.iload_n 2, 1) := by decide +kernel
theorem dX11_put_55 : decode cX11_put 55 = .ok (.invokevirtual 126, 3) := by decide +kernel
theorem dX11_put_58 : decode cX11_put 58 = .ok (.istore 5, 2) := by decide +kernel
theorem dX11_put_60 : decode cX11_put 60 = .ok (.aload 4, 2) := by decide +kernel
theorem dX11_put_62 : decode cX11_put 62 = .ok (.iload_n 2, 1) := by decide +kernel
theorem dX11_put_63 : decode cX11_put 63 = .ok (.iload_n 3, 1) := by decide +kernel
theorem dX11_put_64 : decode cX11_put 64 = .ok (.i2b, 1) := by decide +kernel
theorem dX11_put_65 : decode cX11_put 65 = .ok (.invokevirtual 129, 3) := by decide +kernel
theorem dX11_put_68 : decode cX11_put 68 = .ok (.iload 5, 2) := by decide +kernel
theorem dX11_put_70 : decode cX11_put 70 = .ok (.sipush 1000, 3) := by decide +kernel
theorem dX11_put_73 : decode cX11_put 73 = .ok (.iadd, 1) := by decide +kernel
theorem dX11_put_74 : decode cX11_put 74 = .ok (.ireturn, 1) := by decide +kernel
theorem dX11_fault_0 : decode cX11_fault 0 = .ok (.iload_n 1, 1) := by decide +kernel
theorem dX11_fault_1 : decode cX11_fault 1 = .ok (.invokestatic 153, 3) := by decide +kernel
theorem dX11_fault_4 : decode cX11_fault 4 = .ok (.ifCond .ne 5, 3) := by decide +kernel
theorem dX11_fault_7 : decode cX11_fault 7 = .ok (.iconst (-1), 1) := by decide +kernel
theorem dX11_fault_8 : decode cX11_fault 8 = .ok (.ireturn, 1) := by decide +kernel
theorem dX11_fault_9 : decode cX11_fault 9 = .ok (.aload_n 0, 1) := by decide +kernel
theorem dX11_fault_10 : decode cX11_fault 10 = .ok (.getfield 25, 3) := by decide +kernel
theorem dX11_fault_13 : decode cX11_fault 13 = .ok (.iload_n 1, 1) := by decide +kernel
theorem dX11_fault_14 : decode cX11_fault 14 = .ok (.aaload, 1) := by decide +kernel
theorem dX11_fault_15 : decode cX11_fault 15 = .ok (.invokevirtual 119, 3) := by decide +kernel
theorem dX11_fault_18 : decode cX11_fault 18 = .ok (.ifCond .ne 12, 3) := by decide +kernel
theorem dX11_fault_21 : decode cX11_fault 21 = .ok (.aload_n 0, 1) := by decide +kernel
theorem dX11_fault_22 : decode cX11_fault 22 = .ok (.getfield 12, 3) := by decide +kernel
theorem dX11_fault_25 : decode cX11_fault 25 = .ok (.iconst 1, 1) := by decide +kernel
theorem dX11_fault_26 : decode cX11_fault 26 = .ok (.invokevirtual 111, 3) := by decide +kernel
theorem dX11_fault_29 : decode cX11_fault 29 = .ok (.ireturn, 1) := by decide +kernel
theorem dX11_fault_30 : decode cX11_fault 30 = .ok (.aload_n 0, 1) := by decide +kernel
theorem dX11_fault_31 : decode cX11_fault 31 = .ok (.getfield 31, 3) := by decide +kernel
theorem dX11_fault_34 : decode cX11_fault 34 = .ok (.aload_n 0, 1) := by decide +kernel
theorem dX11_fault_35 : decode cX11_fault 35 = .ok (.getfield 25, 3) := by decide +kernel
theorem dX11_fault_38 : decode cX11_fault 38 = .ok (.iload_n 1, 1) := by decide +kernel
theorem dX11_fault_39 : decode cX11_fault 39 = .ok (.aaload, 1) := by decide +kernel
theorem dX11_fault_40 : decode cX11_fault 40 = .ok (.aload_n 0, 1) := by decide +kernel
theorem dX11_fault_41 : decode cX11_fault 41 = .ok (.getfield 42, 3) := by decide +kernel
theorem dX11_fault_44 : decode cX11_fault 44 = .ok (.invokevirtual 156, 3) := by decide +kernel
theorem dX11_fault_47 : decode cX11_fault 47 = .ok (.ireturn, 1) := by decide +kernel
theorem dX11_hands_0 : decode cX11_hands 0 = .ok (.iload_n 1, 1) := by decide +kernel
theorem dX11_hands_1 : decode cX11_hands 1 = .ok (.invokestatic 153, 3) := by decide +kernel
theorem dX11_hands_4 : decode cX11_hands 4 = .ok (.ifCond .ne 5, 3) := by decide +kernel
theorem dX11_hands_7 : decode cX11_hands 7 = .ok (.iconst (-1), 1) := by decide +kernel
theorem dX11_hands_8 : decode cX11_hands 8 = .ok (.ireturn, 1) := by decide +kernel
theorem dX11_hands_9 : decode cX11_hands 9 = .ok (.aload_n 0, 1) := by decide +kernel
theorem dX11_hands_10 : decode cX11_hands 10 = .ok (.getfield 25, 3) := by decide +kernel
theorem dX11_hands_13 : decode cX11_hands 13 = .ok (.iload_n 1, 1) := by decide +kernel
theorem dX11_hands_14 : decode cX11_hands 14 = .ok (.aaload, 1) := by decide +kernel
theorem dX11_hands_15 : decode cX11_hands 15 = .ok (.invokevirtual 119, 3) := by decide +kernel
theorem dX11_hands_18 : decode cX11_hands 18 = .ok (.ifCond .ne 12, 3) := by decide +kernel
theorem dX11_hands_21 : decode cX11_hands 21 = .ok (.aload_n 0, 1) := by decide +kernel
theorem dX11_hands_22 : decode cX11_hands 22 = .ok (.getfield 12, 3) := by decide +kernel
theorem dX11_hands_25 : decode cX11_hands 25 = .ok (.iconst 1, 1) := by decide +kernel
theorem dX11_hands_26 : decode cX11_hands 26 = .ok (.invokevirtual 111, 3) := by decide +kernel
theorem dX11_hands_29 : decode cX11_hands 29 = .ok (.ireturn, 1) := by decide +kernel
theorem dX11_hands_30 : decode cX11_hands 30 = .ok (.aload_n 0, 1) := by decide +kernel
theorem dX11_hands_31 : decode cX11_hands 31 = .ok (.getfield 31, 3) := by decide +kernel
theorem dX11_hands_34 : decode cX11_hands 34 = .ok (.aload_n 0, 1) := by decide +kernel
theorem dX11_hands_35 : decode cX11_hands 35 = .ok (.getfield 25, 3) := by decide +kernel
theorem dX11_hands_38 : decode cX11_hands 38 = .ok (.iload_n 1, 1) := by decide +kernel
theorem dX11_hands_39 : decode cX11_hands 39 = .ok (.aaload, 1) := by decide +kernel
theorem dX11_hands_40 : decode cX11_hands 40 = .ok (.aload_n 0, 1) := by decide +kernel
theorem dX11_hands_41 : decode cX11_hands 41 = .ok (.getfield 42, 3) := by decide +kernel
theorem dX11_hands_44 : decode cX11_hands 44 = .ok (.invokevirtual 156, 3) := by decide +kernel
theorem dX11_hands_47 : decode cX11_hands 47 = .ok (.bipush (-9), 2) := by decide +kernel
theorem dX11_hands_49 : decode cX11_hands 49 = .ok (.if_icmp .eq 6, 3) := by decide +kernel
theorem dX11_hands_52 : decode cX11_hands 52 = .ok (.bipush (-4), 2) := by decide +kernel
theorem dX11_hands_54 : decode cX11_hands 54 = .ok (.ireturn, 1) := by decide +kernel
theorem dX11_hands_55 : decode cX11_hands 55 = .ok (.aload_n 0, 1) := by decide +kernel
theorem dX11_hands_56 : decode cX11_hands 56 = .ok (.getfield 31, 3) := by decide +kernel
theorem dX11_hands_59 : decode cX11_hands 59 = .ok (.aload_n 0, 1) := by decide +kernel
theorem dX11_hands_60 : decode cX11_hands 60 = .ok (.getfield 25, 3) := by decide +kernel
theorem dX11_hands_63 : decode cX11_hands 63 = .ok (.iload_n 1, 1) := by decide +kernel
theorem dX11_hands_64 : decode cX11_hands 64 = .ok (.aaload, 1) := by decide +kernel
theorem dX11_hands_65 : decode cX11_hands 65 = .ok (.aload_n 0, 1) := by decide +kernel
theorem dX11_hands_66 : decode cX11_hands 66 = .ok (.getfield 38, 3) := by decide +kernel
theorem dX11_hands_69 : decode cX11_hands 69 = .ok (.invokevirtual 156, 3) := by decide +kernel
theorem dX11_hands_72 : decode cX11_hands 72 = .ok (.pop, 1) := by decide +kernel
theorem dX11_hands_73 : decode cX11_hands 73 = .ok (.aload_n 0, 1) := by decide +kernel
theorem dX11_hands_74 : decode cX11_hands 74 = .ok (.iconst 0, 1) := by decide +kernel
theorem dX11_hands_75 : decode cX11_hands 75 = .ok (.invokevirtual 160, 3) := by decide +kernel
theorem dX11_hands_78 : decode cX11_hands 78 = .ok (.aload_n 0, 1) := by decide +kernel
theorem dX11_hands_79 : decode cX11_hands 79 = .ok (.getfield 83, 3) := by decide +kernel
theorem dX11_hands_82 : decode cX11_hands 82 = .ok (.aload_n 0, 1) := by decide +kernel
theorem dX11_hands_83 : decode cX11_hands 83 = .ok (.getfield 38, 3) := by decide +kernel
theorem dX11_hands_86 : decode cX11_hands 86 = .ok (.invokevirtual 163, 3) := by decide +kernel
theorem dX11_hands_89 : decode cX11_hands 89 = .ok (.aload_n 0, 1) := by decide +kernel
theorem dX11_hands_90 : decode cX11_hands 90 = .ok (.getfield 38, 3) := by decide +kernel
theorem dX11_hands_93 : decode cX11_hands 93 = .ok (.getfield 167, 3) := by decide +kernel
theorem dX11_hands_96 : decode cX11_hands 96 = .ok (.ireturn, 1) := by decide +kernel
theorem dX11_finger_0 : decode cX11_finger 0 = .ok (.iload_n 1, 1) := by decide +kernel
theorem dX11_finger_1 : decode cX11_finger 1 = .ok (.ifCond .lt 14, 3) := by decide +kernel
theorem dX11_finger_4 : decode cX11_finger 4 = .ok (.iload_n 1, 1) := by decide +kernel
theorem dX11_finger_5 : decode cX11_finger 5 = .ok (.aload_n 0, 1) := by decide +kernel
theorem dX11_finger_6 : decode cX11_finger 6 = .ok (.getfield 38, 3) := by decide +kernel
theorem dX11_finger_9 : decode cX11_finger 9 = .ok (.getfield 170, 3) := by decide +kernel
theorem dX11_finger_12 : decode cX11_finger 12 = .ok (.if_icmp .lt 5, 3) := by decide +kernel
theorem dX11_finger_15 : decode cX11_finger 15 = .ok (.iconst (-1), 1) := by decide +kernel
theorem dX11_finger_16 : decode cX11_finger 16 = .ok (.ireturn, 1) := by decide +kernel
theorem dX11_finger_17 : decode cX11_finger 17 = .ok (.iload_n 2, 1) := by decide +kernel
theorem dX11_finger_18 : decode cX11_finger 18 = .ok (.tableswitch 98 0 3 #[30, 47, 64, 81], 30) := by decide +kernel
theorem dX11_finger_48 : decode cX11_finger 48 = .ok (.aload_n 0, 1) := by decide +kernel
theorem dX11_finger_49 : decode cX11_finger 49 = .ok (.getfield 12, 3) := by decide +kernel
theorem dX11_finger_52 : decode cX11_finger 52 = .ok (.aload_n 0, 1) := by decide +kernel
theorem dX11_finger_53 : decode cX11_finger 53 = .ok (.getfield 38, 3) := by decide +kernel
theorem dX11_finger_56 : decode cX11_finger 56 = .ok (.getfield 173, 3) := by decide +kernel
theorem dX11_finger_59 : decode cX11_finger 59 = .ok (.iload_n 1, 1) := by decide +kernel
theorem dX11_finger_60 : decode cX11_finger 60 = .ok (.iaload, 1) := by decide +kernel
theorem dX11_finger_61 : decode cX11_finger 61 = .ok (.invokevirtual 132, 3) := by decide +kernel
theorem dX11_finger_64 : decode cX11_finger 64 = .ok (.ireturn, 1) := by decide +kernel
theorem dX11_finger_65 : decode cX11_finger 65 = .ok (.aload_n 0, 1) := by decide +kernel
theorem dX11_finger_66 : decode cX11_finger 66 = .ok (.getfield 12, 3) := by decide +kernel
theorem dX11_finger_69 : decode cX11_finger 69 = .ok (.aload_n 0, 1) := by decide +kernel
theorem dX11_finger_70 : decode cX11_finger 70 = .ok (.getfield 38, 3) := by decide +kernel
theorem dX11_finger_73 : decode cX11_finger 73 = .ok (.getfield 177, 3) := by decide +kernel
theorem dX11_finger_76 : decode cX11_finger 76 = .ok (.iload_n 1, 1) := by decide +kernel
theorem dX11_finger_77 : decode cX11_finger 77 = .ok (.iaload, 1) := by decide +kernel
theorem dX11_finger_78 : decode cX11_finger 78 = .ok (.invokevirtual 132, 3) := by decide +kernel
theorem dX11_finger_81 : decode cX11_finger 81 = .ok (.ireturn, 1) := by decide +kernel
theorem dX11_finger_82 : decode cX11_finger 82 = .ok (.aload_n 0, 1) := by decide +kernel
theorem dX11_finger_83 : decode cX11_finger 83 = .ok (.getfield 12, 3) := by decide +kernel
theorem dX11_finger_86 : decode cX11_finger 86 = .ok (.aload_n 0, 1) := by decide +kernel
theorem dX11_finger_87 : decode cX11_finger 87 = .ok (.getfield 38, 3) := by decide +kernel
theorem dX11_finger_90 : decode cX11_finger 90 = .ok (.getfield 180, 3) := by decide +kernel
theorem dX11_finger_93 : decode cX11_finger 93 = .ok (.iload_n 1, 1) := by decide +kernel
theorem dX11_finger_94 : decode cX11_finger 94 = .ok (.iaload, 1) := by decide +kernel
theorem dX11_finger_95 : decode cX11_finger 95 = .ok (.invokevirtual 132, 3) := by decide +kernel
theorem dX11_finger_98 : decode cX11_finger 98 = .ok (.ireturn, 1) := by decide +kernel
theorem dX11_finger_99 : decode cX11_finger 99 = .ok (.aload_n 0, 1) := by decide +kernel
theorem dX11_finger_100 : decode cX11_finger 100 = .ok (.getfield 12, 3) := by decide +kernel
theorem dX11_finger_103 : decode cX11_finger 103 = .ok (.aload_n 0, 1) := by decide +kernel
theorem dX11_finger_104 : decode cX11_finger 104 = .ok (.getfield 38, 3) := by decide +kernel
theorem dX11_finger_107 : decode cX11_finger 107 = .ok (.getfield 183, 3) := by decide +kernel
theorem dX11_finger_110 : decode cX11_finger 110 = .ok (.iload_n 1, 1) := by decide +kernel
theorem dX11_finger_111 : decode cX11_finger 111 = .ok (.iaload, 1) := by decide +kernel
theorem dX11_finger_112 : decode cX11_finger 112 = .ok (.invokevirtual 132, 3) := by decide +kernel
theorem dX11_finger_115 : decode cX11_finger 115 = .ok (.ireturn, 1) := by decide +kernel
theorem dX11_finger_116 : decode cX11_finger 116 = .ok (.iconst (-1), 1) := by decide +kernel
theorem dX11_finger_117 : decode cX11_finger 117 = .ok (.ireturn, 1) := by decide +kernel
theorem dX11_joint_0 : decode cX11_joint 0 = .ok (.aload_n 0, 1) := by decide +kernel
theorem dX11_joint_1 : decode cX11_joint 1 = .ok (.iload_n 1, 1) := by decide +kernel
theorem dX11_joint_2 : decode cX11_joint 2 = .ok (.invokevirtual 186, 3) := by decide +kernel
theorem dX11_joint_5 : decode cX11_joint 5 = .ok (.ifCond .ne 5, 3) := by decide +kernel
theorem dX11_joint_8 : decode cX11_joint 8 = .ok (.iconst (-1), 1) := by decide +kernel
theorem dX11_joint_9 : decode cX11_joint 9 = .ok (.ireturn, 1) := by decide +kernel
theorem dX11_joint_10 : decode cX11_joint 10 = .ok (.iload_n 2, 1) := by decide +kernel
theorem dX11_joint_11 : decode cX11_joint 11 = .ok (.tableswitch 76 0 2 #[25, 42, 59], 25) := by decide +kernel
theorem dX11_joint_36 : decode cX11_joint 36 = .ok (.aload_n 0, 1) := by decide +kernel
theorem dX11_joint_37 : decode cX11_joint 37 = .ok (.getfield 12, 3) := by decide +kernel
theorem dX11_joint_40 : decode cX11_joint 40 = .ok (.aload_n 0, 1) := by decide +kernel
theorem dX11_joint_41 : decode cX11_joint 41 = .ok (.getfield 38, 3) := by decide +kernel
theorem dX11_joint_44 : decode cX11_joint 44 = .ok (.getfield 189, 3) := by decide +kernel
theorem dX11_joint_47 : decode cX11_joint 47 = .ok (.iload_n 1, 1) := by decide +kernel
theorem dX11_joint_48 : decode cX11_joint 48 = .ok (.iaload, 1) := by decide +kernel
theorem dX11_joint_49 : decode cX11_joint 49 = .ok (.invokevirtual 132, 3) := by decide +kernel
theorem dX11_joint_52 : decode cX11_joint 52 = .ok (.ireturn, 1) := by decide +kernel
theorem dX11_joint_53 : decode cX11_joint 53 = .ok (.aload_n 0, 1) := by decide +kernel
theorem dX11_joint_54 : decode cX11_joint 54 = .ok (.getfield 12, 3) := by decide +kernel
theorem dX11_joint_57 : decode cX11_joint 57 = .ok (.aload_n 0, 1) := by decide +kernel
theorem dX11_joint_58 : decode cX11_joint 58 = .ok (.getfield 38, 3) := by decide +kernel
theorem dX11_joint_61 : decode cX11_joint 61 = .ok (.getfield 192, 3) := by decide +kernel
theorem dX11_joint_64 : decode cX11_joint 64 = .ok (.iload_n 1, 1) := by decide +kernel
theorem dX11_joint_65 : decode cX11_joint 65 = .ok (.iaload, 1) := by decide +kernel
theorem dX11_joint_66 : decode cX11_joint 66 = .ok (.invokevirtual 132, 3) := by decide +kernel
theorem dX11_joint_69 : decode cX11_joint 69 = .ok (.ireturn, 1) := by decide +kernel
theorem dX11_joint_70 : decode cX11_joint 70 = .ok (.aload_n 0, 1) := by decide +kernel
theorem dX11_joint_71 : decode cX11_joint 71 = .ok (.getfield 12, 3) := by decide +kernel
theorem dX11_joint_74 : decode cX11_joint 74 = .ok (.aload_n 0, 1) := by decide +kernel
theorem dX11_joint_75 : decode cX11_joint 75 = .ok (.getfield 38, 3) := by decide +kernel
theorem dX11_joint_78 : decode cX11_joint 78 = .ok (.getfield 195, 3) := by decide +kernel
theorem dX11_joint_81 : decode cX11_joint 81 = .ok (.iload_n 1, 1) := by decide +kernel
theorem dX11_joint_82 : decode cX11_joint 82 = .ok (.iaload, 1) := by decide +kernel
theorem dX11_joint_83 : decode cX11_joint 83 = .ok (.invokevirtual 132, 3) := by decide +kernel
theorem dX11_joint_86 : decode cX11_joint 86 = .ok (.ireturn, 1) := by decide +kernel
theorem dX11_joint_87 : decode cX11_joint 87 = .ok (.iconst (-1), 1) := by decide +kernel
theorem dX11_joint_88 : decode cX11_joint 88 = .ok (.ireturn, 1) := by decide +kernel
theorem dX11_strain_0 : decode cX11_strain 0 = .ok (.iload_n 1, 1) := by decide +kernel
theorem dX11_strain_1 : decode cX11_strain 1 = .ok (.ifCond .lt 9, 3) := by decide +kernel
theorem dX11_strain_4 : decode cX11_strain 4 = .ok (.iload_n 1, 1) := by decide +kernel
theorem dX11_strain_5 : decode cX11_strain 5 = .ok (.bipush 99, 2) := by decide +kernel
theorem dX11_strain_7 : decode cX11_strain 7 = .ok (.if_icmp .le 5, 3) := by decide +kernel
theorem dX11_strain_10 : decode cX11_strain 10 = .ok (.iconst (-1), 1) := by decide +kernel
theorem dX11_strain_11 : decode cX11_strain 11 = .ok (.ireturn, 1) := by decide +kernel
theorem dX11_strain_12 : decode cX11_strain 12 = .ok (.aload_n 0, 1) := by decide +kernel
theorem dX11_strain_13 : decode cX11_strain 13 = .ok (.getfield 55, 3) := by decide +kernel
theorem dX11_strain_16 : decode cX11_strain 16 = .ok (.istore_n 2, 1) := by decide +kernel
theorem dX11_strain_17 : decode cX11_strain 17 = .ok (.aload_n 0, 1) := by decide +kernel
theorem dX11_strain_18 : decode cX11_strain 18 = .ok (.iload_n 1, 1) := by decide +kernel
theorem dX11_strain_19 : decode cX11_strain 19 = .ok (.putfield 55, 3) := by decide +kernel
theorem dX11_strain_22 : decode cX11_strain 22 = .ok (.iload_n 2, 1) := by decide +kernel
theorem dX11_strain_23 : decode cX11_strain 23 = .ok (.ireturn, 1) := by decide +kernel
theorem dX11_lamp_0 : decode cX11_lamp 0 = .ok (.iload_n 1, 1) := by decide +kernel
theorem dX11_lamp_1 : decode cX11_lamp 1 = .ok (.iconst 1, 1) := by decide +kernel
theorem dX11_lamp_2 : decode cX11_lamp 2 = .ok (.if_icmp .lt 22, 3) := by decide +kernel
theorem dX11_lamp_5 : decode cX11_lamp 5 = .ok (.iload_n 1, 1) := by decide +kernel
theorem dX11_lamp_6 : decode cX11_lamp 6 = .ok (.iconst 2, 1) := by decide +kernel
theorem dX11_lamp_7 : decode cX11_lamp 7 = .ok (.if_icmp .gt 17, 3) := by decide +kernel
theorem dX11_lamp_10 : decode cX11_lamp 10 = .ok (.iload_n 2, 1) := by decide +kernel
theorem dX11_lamp_11 : decode cX11_lamp 11 = .ok (.invokestatic 198, 3) := by decide +kernel
theorem dX11_lamp_14 : decode cX11_lamp 14 = .ok (.ifCond .eq 10, 3) := by decide +kernel
theorem dX11_lamp_17 : decode cX11_lamp 17 = .ok (.iload_n 3, 1) := by decide +kernel
theorem dX11_lamp_18 : decode cX11_lamp 18 = .ok (.invokestatic 198, 3) := by decide +kernel
theorem dX11_lamp_21 : decode cX11_lamp 21 = .ok (.ifCond .ne 5, 3) := by decide +kernel
theorem dX11_lamp_24 : decode cX11_lamp 24 = .ok (.iconst (-1), 1) := by decide +kernel
theorem dX11_lamp_25 : decode cX11_lamp 25 = .ok (.ireturn, 1) := by decide +kernel
theorem dX11_lamp_26 : decode cX11_lamp 26 = .ok (.aload_n 0, 1) := by decide +kernel
theorem dX11_lamp_27 : decode cX11_lamp 27 = .ok (.getfield 48, 3) := by decide +kernel
theorem dX11_lamp_30 : decode cX11_lamp 30 = .ok (.invokevirtual 201, 3) := by decide +kernel
theorem dX11_lamp_33 : decode cX11_lamp 33 = .ok (.istore 4, 2) := by decide +kernel
theorem dX11_lamp_35 : decode cX11_lamp 35 = .ok (.aload_n 0, 1) := by decide +kernel
theorem dX11_lamp_36 : decode cX11_lamp 36 = .ok (.getfield 48, 3) := by decide +kernel
theorem dX11_lamp_39 : decode cX11_lamp 39 = .ok (.iload_n 1, 1) := by decide +kernel
theorem dX11_lamp_40 : decode cX11_lamp 40 = .ok (.iload_n 2, 1) := by decide +kernel
theorem dX11_lamp_41 : decode cX11_lamp 41 = .ok (.iload_n 3, 1) := by decide +kernel
theorem dX11_lamp_42 : decode cX11_lamp 42 = .ok (.invokevirtual 205, 3) := by decide +kernel
theorem dX11_lamp_45 : decode cX11_lamp 45 = .ok (.iload 4, 2) := by decide +kernel
theorem dX11_lamp_47 : decode cX11_lamp 47 = .ok (.ireturn, 1) := by decide +kernel
theorem dX11_pose_0 : decode cX11_pose 0 = .ok (.iload_n 1, 1) := by decide +kernel
theorem dX11_pose_1 : decode cX11_pose 1 = .ok (.invokestatic 107, 3) := by decide +kernel
theorem dX11_pose_4 : decode cX11_pose 4 = .ok (.ifCond .eq 17, 3) := by decide +kernel
theorem dX11_pose_7 : decode cX11_pose 7 = .ok (.iload_n 2, 1) := by decide +kernel
theorem dX11_pose_8 : decode cX11_pose 8 = .ok (.bipush (-9), 2) := by decide +kernel
theorem dX11_pose_10 : decode cX11_pose 10 = .ok (.if_icmp .eq 13, 3) := by decide +kernel
theorem dX11_pose_13 : decode cX11_pose 13 = .ok (.aload_n 0, 1) := by decide +kernel
theorem dX11_pose_14 : decode cX11_pose 14 = .ok (.iload_n 2, 1) := by decide +kernel
theorem dX11_pose_15 : decode cX11_pose 15 = .ok (.invokevirtual 186, 3) := by decide +kernel
theorem dX11_pose_18 : decode cX11_pose 18 = .ok (.ifCond .ne 5, 3) := by decide +kernel
theorem dX11_pose_21 : decode cX11_pose 21 = .ok (.iconst (-1), 1) := by decide +kernel
theorem dX11_pose_22 : decode cX11_pose 22 = .ok (.ireturn, 1) := by decide +kernel
theorem dX11_pose_23 : decode cX11_pose 23 = .ok (.aload_n 0, 1) := by decide +kernel
theorem dX11_pose_24 : decode cX11_pose 24 = .ok (.getfield 18, 3) := by decide +kernel
theorem dX11_pose_27 : decode cX11_pose 27 = .ok (.iload_n 1, 1) := by decide +kernel
theorem dX11_pose_28 : decode cX11_pose 28 = .ok (.aaload, 1) := by decide +kernel
theorem dX11_pose_29 : decode cX11_pose 29 = .ok (.astore_n 3, 1) := by decide +kernel
theorem dX11_pose_30 : decode cX11_pose 30 = .ok (.aload_n 3, 1) := by decide +kernel
theorem dX11_pose_31 : decode cX11_pose 31 = .ok (.invokevirtual 119, 3) := by decide +kernel
theorem dX11_pose_34 : decode cX11_pose 34 = .ok (.ifCond .ne 12, 3) := by decide +kernel
theorem dX11_pose_37 : decode cX11_pose 37 = .ok (.aload_n 0, 1) := by decide +kernel
theorem dX11_pose_38 : decode cX11_pose 38 = .ok (.getfield 12, 3) := by decide +kernel
theorem dX11_pose_41 : decode cX11_pose 41 = .ok (.iconst 1, 1) := by decide +kernel
theorem dX11_pose_42 : decode cX11_pose 42 = .ok (.invokevirtual 111, 3) := by decide +kernel
theorem dX11_pose_45 : decode cX11_pose 45 = .ok (.ireturn, 1) := by decide +kernel
theorem dX11_pose_46 : decode cX11_pose 46 = .ok (.aload_n 3, 1) := by decide +kernel
theorem dX11_pose_47 : decode cX11_pose 47 = .ok (.getfield 146, 3) := by decide +kernel
theorem dX11_pose_50 : decode cX11_pose 50 = .ok (.aload_n 0, 1) := by decide +kernel
theorem dX11_pose_51 : decode cX11_pose 51 = .ok (.getfield 38, 3) := by decide +kernel
theorem dX11_pose_54 : decode cX11_pose 54 = .ok (.getfield 167, 3) := by decide +kernel
theorem dX11_pose_57 : decode cX11_pose 57 = .ok (.if_icmp .eq 12, 3) := by decide +kernel
theorem dX11_pose_60 : decode cX11_pose 60 = .ok (.aload_n 0, 1) := by decide +kernel
theorem dX11_pose_61 : decode cX11_pose 61 = .ok (.getfield 12, 3) := by decide +kernel
theorem dX11_pose_64 : decode cX11_pose 64 = .ok (.iconst 5, 1) := by decide +kernel
theorem dX11_pose_65 : decode cX11_pose 65 = .ok (.invokevirtual 111, 3) := by decide +kernel
theorem dX11_pose_68 : decode cX11_pose 68 = .ok (.ireturn, 1) := by decide +kernel
theorem dX11_pose_69 : decode cX11_pose 69 = .ok (.aload_n 0, 1) := by decide +kernel
theorem dX11_pose_70 : decode cX11_pose 70 = .ok (.getfield 38, 3) := by decide +kernel
theorem dX11_pose_73 : decode cX11_pose 73 = .ok (.aload_n 3, 1) := by decide +kernel
theorem dX11_pose_74 : decode cX11_pose 74 = .ok (.invokevirtual 209, 3) := by decide +kernel
theorem dX11_pose_77 : decode cX11_pose 77 = .ok (.ifCond .ne 12, 3) := by decide +kernel
theorem dX11_pose_80 : decode cX11_pose 80 = .ok (.aload_n 0, 1) := by decide +kernel
theorem dX11_pose_81 : decode cX11_pose 81 = .ok (.getfield 12, 3) := by decide +kernel
theorem dX11_pose_84 : decode cX11_pose 84 = .ok (.iconst 3, 1) := by decide +kernel
theorem dX11_pose_85 : decode cX11_pose 85 = .ok (.invokevirtual 111, 3) := by decide +kernel
theorem dX11_pose_88 : decode cX11_pose 88 = .ok (.ireturn, 1) := by decide +kernel
theorem dX11_pose_89 : decode cX11_pose 89 = .ok (.iload_n 2, 1) := by decide +kernel
theorem dX11_pose_90 : decode cX11_pose 90 = .ok (.bipush (-9), 2) := by decide +kernel
theorem dX11_pose_92 : decode cX11_pose 92 = .ok (.if_icmp .eq 22, 3) := by decide +kernel
theorem dX11_pose_95 : decode cX11_pose 95 = .ok (.aload_n 3, 1) := by decide +kernel
theorem dX11_pose_96 : decode cX11_pose 96 = .ok (.iload_n 2, 1) := by decide +kernel
theorem dX11_pose_97 : decode cX11_pose 97 = .ok (.invokevirtual 126, 3) := by decide +kernel
theorem dX11_pose_100 : decode cX11_pose 100 = .ok (.aload_n 0, 1) := by decide +kernel
theorem dX11_pose_101 : decode cX11_pose 101 = .ok (.getfield 38, 3) := by decide +kernel
theorem dX11_pose_104 : decode cX11_pose 104 = .ok (.getfield 195, 3) := by decide +kernel
theorem dX11_pose_107 : decode cX11_pose 107 = .ok (.iload_n 2, 1) := by decide +kernel
theorem dX11_pose_108 : decode cX11_pose 108 = .ok (.iaload, 1) := by decide +kernel
theorem dX11_pose_109 : decode cX11_pose 109 = .ok (.if_icmp .lt 5, 3) := by decide +kernel
theorem dX11_pose_112 : decode cX11_pose 112 = .ok (.iconst (-1), 1) := by decide +kernel
theorem dX11_pose_113 : decode cX11_pose 113 = .ok (.ireturn, 1) := by decide +kernel
theorem dX11_pose_114 : decode cX11_pose 114 = .ok (.aload_n 0, 1) := by decide +kernel
theorem dX11_pose_115 : decode cX11_pose 115 = .ok (.getfield 213, 3) := by decide +kernel
theorem dX11_pose_118 : decode cX11_pose 118 = .ok (.bipush 12, 2) := by decide +kernel
theorem dX11_pose_120 : decode cX11_pose 120 = .ok (.if_icmp .lt 6, 3) := by decide +kernel
theorem dX11_pose_123 : decode cX11_pose 123 = .ok (.bipush (-2), 2) := by decide +kernel
theorem dX11_pose_125 : decode cX11_pose 125 = .ok (.ireturn, 1) := by decide +kernel
theorem dX11_pose_126 : decode cX11_pose 126 = .ok (.aload_n 0, 1) := by decide +kernel
theorem dX11_pose_127 : decode cX11_pose 127 = .ok (.getfield 61, 3) := by decide +kernel
theorem dX11_pose_130 : decode cX11_pose 130 = .ok (.aload_n 0, 1) := by decide +kernel
theorem dX11_pose_131 : decode cX11_pose 131 = .ok (.getfield 213, 3) := by decide +kernel
theorem dX11_pose_134 : decode cX11_pose 134 = .ok (.aaload, 1) := by decide +kernel
theorem dX11_pose_135 : decode cX11_pose 135 = .ok (.astore 4, 2) := by decide +kernel
theorem dX11_pose_137 : decode cX11_pose 137 = .ok (.aload 4, 2) := by decide +kernel
theorem dX11_pose_139 : decode cX11_pose 139 = .ok (.aload_n 3, 1) := by decide +kernel
theorem dX11_pose_140 : decode cX11_pose 140 = .ok (.iload_n 2, 1) := by decide +kernel
theorem dX11_pose_141 : decode cX11_pose 141 = .ok (.invokevirtual 216, 3) := by decide +kernel
theorem dX11_pose_144 : decode cX11_pose 144 = .ok (.aload 4, 2) := by decide +kernel
theorem dX11_pose_146 : decode cX11_pose 146 = .ok (.aload_n 0, 1) := by decide +kernel
theorem dX11_pose_147 : decode cX11_pose 147 = .ok (.getfield 38, 3) := by decide +kernel
theorem dX11_pose_150 : decode cX11_pose 150 = .ok (.aload_n 0, 1) := by decide +kernel
theorem dX11_pose_151 : decode cX11_pose 151 = .ok (.getfield 55, 3) := by decide +kernel
theorem dX11_pose_154 : decode cX11_pose 154 = .ok (.aload_n 0, 1) := by decide +kernel
theorem dX11_pose_155 : decode cX11_pose 155 = .ok (.getfield 97, 3) := by decide +kernel
theorem dX11_pose_158 : decode cX11_pose 158 = .ok (.invokevirtual 220, 3) := by decide +kernel
theorem dX11_pose_161 : decode cX11_pose 161 = .ok (.aload_n 0, 1) := by decide +kernel
theorem dX11_pose_162 : decode cX11_pose 162 = .ok (.getfield 12, 3) := by decide +kernel
theorem dX11_pose_165 : decode cX11_pose 165 = .ok (.aload 4, 2) := by decide +kernel
theorem dX11_pose_167 : decode cX11_pose 167 = .ok (.getfield 224, 3) := by decide +kernel
theorem dX11_pose_170 : decode cX11_pose 170 = .ok (.invokevirtual 132, 3) := by decide +kernel
theorem dX11_pose_173 : decode cX11_pose 173 = .ok (.pop, 1) := by decide +kernel
theorem dX11_pose_174 : decode cX11_pose 174 = .ok (.aload_n 0, 1) := by decide +kernel
theorem dX11_pose_175 : decode cX11_pose 175 = .ok (.dup, 1) := by decide +kernel
theorem dX11_pose_176 : decode cX11_pose 176 = .ok (.getfield 213, 3) := by decide +kernel
theorem dX11_pose_179 : decode cX11_pose 179 = .ok (.iconst 1, 1) := by decide +kernel
theorem dX11_pose_180 : decode cX11_pose 180 = .ok (.iadd, 1) := by decide +kernel
theorem dX11_pose_181 : decode cX11_pose 181 = .ok (.putfield 213, 3) := by decide +kernel
theorem dX11_pose_184 : decode cX11_pose 184 = .ok (.aload_n 0, 1) := by decide +kernel
theorem dX11_pose_185 : decode cX11_pose 185 = .ok (.getfield 213, 3) := by decide +kernel
theorem dX11_pose_188 : decode cX11_pose 188 = .ok (.iconst 1, 1) := by decide +kernel
theorem dX11_pose_189 : decode cX11_pose 189 = .ok (.isub, 1) := by decide +kernel
theorem dX11_pose_190 : decode cX11_pose 190 = .ok (.ireturn, 1) := by decide +kernel
theorem dX11_help_0 : decode cX11_help 0 = .ok (.aload_n 0, 1) := by decide +kernel
theorem dX11_help_1 : decode cX11_help 1 = .ok (.iload_n 1, 1) := by decide +kernel
theorem dX11_help_2 : decode cX11_help 2 = .ok (.invokevirtual 227, 3) := by decide +kernel
theorem dX11_help_5 : decode cX11_help 5 = .ok (.ifCond .eq 10, 3) := by decide +kernel
theorem dX11_help_8 : decode cX11_help 8 = .ok (.iload_n 2, 1) := by decide +kernel
theorem dX11_help_9 : decode cX11_help 9 = .ok (.invokestatic 107, 3) := by decide +kernel
theorem dX11_help_12 : decode cX11_help 12 = .ok (.ifCond .ne 5, 3) := by decide +kernel
theorem dX11_help_15 : decode cX11_help 15 = .ok (.iconst (-1), 1) := by decide +kernel
theorem dX11_help_16 : decode cX11_help 16 = .ok (.ireturn, 1) := by decide +kernel
theorem dX11_help_17 : decode cX11_help 17 = .ok (.aload_n 0, 1) := by decide +kernel
theorem dX11_help_18 : decode cX11_help 18 = .ok (.getfield 61, 3) := by decide +kernel
theorem dX11_help_21 : decode cX11_help 21 = .ok (.iload_n 1, 1) := by decide +kernel
theorem dX11_help_22 : decode cX11_help 22 = .ok (.aaload, 1) := by decide +kernel
theorem dX11_help_23 : decode cX11_help 23 = .ok (.invokevirtual 230, 3) := by decide +kernel
theorem dX11_help_26 : decode cX11_help 26 = .ok (.ifCond .ne 12, 3) := by decide +kernel
theorem dX11_help_29 : decode cX11_help 29 = .ok (.aload_n 0, 1) := by decide +kernel
theorem dX11_help_30 : decode cX11_help 30 = .ok (.getfield 12, 3) := by decide +kernel
theorem dX11_help_33 : decode cX11_help 33 = .ok (.iconst 3, 1) := by decide +kernel
theorem dX11_help_34 : decode cX11_help 34 = .ok (.invokevirtual 111, 3) := by decide +kernel
theorem dX11_help_37 : decode cX11_help 37 = .ok (.ireturn, 1) := by decide +kernel
theorem dX11_help_38 : decode cX11_help 38 = .ok (.aload_n 0, 1) := by decide +kernel
theorem dX11_help_39 : decode cX11_help 39 = .ok (.getfield 18, 3) := by decide +kernel
theorem dX11_help_42 : decode cX11_help 42 = .ok (.iload_n 2, 1) := by decide +kernel
theorem dX11_help_43 : decode cX11_help 43 = .ok (.aaload, 1) := by decide +kernel
theorem dX11_help_44 : decode cX11_help 44 = .ok (.aload_n 0, 1) := by decide +kernel
theorem dX11_help_45 : decode cX11_help 45 = .ok (.getfield 18, 3) := by decide +kernel
theorem dX11_help_48 : decode cX11_help 48 = .ok (.iload_n 2, 1) := by decide +kernel
theorem dX11_help_49 : decode cX11_help 49 = .ok (.aaload, 1) := by decide +kernel
theorem dX11_help_50 : decode cX11_help 50 = .ok (.invokestatic 233, 3) := by decide +kernel
theorem dX11_help_53 : decode cX11_help 53 = .ok (.istore_n 3, 1) := by decide +kernel
theorem dX11_help_54 : decode cX11_help 54 = .ok (.iload_n 3, 1) := by decide +kernel
theorem dX11_help_55 : decode cX11_help 55 = .ok (.ifCond .eq 12, 3) := by decide +kernel
theorem dX11_help_58 : decode cX11_help 58 = .ok (.aload_n 0, 1) := by decide +kernel
theorem dX11_help_59 : decode cX11_help 59 = .ok (.getfield 12, 3) := by decide +kernel
theorem dX11_help_62 : decode cX11_help 62 = .ok (.iload_n 3, 1) := by decide +kernel
theorem dX11_help_63 : decode cX11_help 63 = .ok (.invokevirtual 111, 3) := by decide +kernel
theorem dX11_help_66 : decode cX11_help 66 = .ok (.ireturn, 1) := by decide +kernel
theorem dX11_help_67 : decode cX11_help 67 = .ok (.aload_n 0, 1) := by decide +kernel
theorem dX11_help_68 : decode cX11_help 68 = .ok (.getfield 18, 3) := by decide +kernel
theorem dX11_help_71 : decode cX11_help 71 = .ok (.iload_n 2, 1) := by decide +kernel
theorem dX11_help_72 : decode cX11_help 72 = .ok (.aaload, 1) := by decide +kernel
theorem dX11_help_73 : decode cX11_help 73 = .ok (.aload_n 0, 1) := by decide +kernel
theorem dX11_help_74 : decode cX11_help 74 = .ok (.getfield 61, 3) := by decide +kernel
theorem dX11_help_77 : decode cX11_help 77 = .ok (.iload_n 1, 1) := by decide +kernel
theorem dX11_help_78 : decode cX11_help 78 = .ok (.aaload, 1) := by decide +kernel
theorem dX11_help_79 : decode cX11_help 79 = .ok (.getfield 237, 3) := by decide +kernel
theorem dX11_help_82 : decode cX11_help 82 = .ok (.invokevirtual 240, 3) := by decide +kernel
theorem dX11_help_85 : decode cX11_help 85 = .ok (.aload_n 0, 1) := by decide +kernel
theorem dX11_help_86 : decode cX11_help 86 = .ok (.getfield 61, 3) := by decide +kernel
theorem dX11_help_89 : decode cX11_help 89 = .ok (.iload_n 1, 1) := by decide +kernel
theorem dX11_help_90 : decode cX11_help 90 = .ok (.aaload, 1) := by decide +kernel
theorem dX11_help_91 : decode cX11_help 91 = .ok (.iconst 5, 1) := by decide +kernel
theorem dX11_help_92 : decode cX11_help 92 = .ok (.putfield 224, 3) := by decide +kernel
theorem dX11_help_95 : decode cX11_help 95 = .ok (.aload_n 0, 1) := by decide +kernel
theorem dX11_help_96 : decode cX11_help 96 = .ok (.getfield 61, 3) := by decide +kernel
theorem dX11_help_99 : decode cX11_help 99 = .ok (.iload_n 1, 1) := by decide +kernel
theorem dX11_help_100 : decode cX11_help 100 = .ok (.aaload, 1) := by decide +kernel
theorem dX11_help_101 : decode cX11_help 101 = .ok (.bipush (-9), 2) := by decide +kernel
theorem dX11_help_103 : decode cX11_help 103 = .ok (.putfield 244, 3) := by decide +kernel
theorem dX11_help_106 : decode cX11_help 106 = .ok (.aload_n 0, 1) := by decide +kernel
theorem dX11_help_107 : decode cX11_help 107 = .ok (.getfield 61, 3) := by decide +kernel
theorem dX11_help_110 : decode cX11_help 110 = .ok (.iload_n 1, 1) := by decide +kernel
theorem dX11_help_111 : decode cX11_help 111 = .ok (.aaload, 1) := by decide +kernel
theorem dX11_help_112 : decode cX11_help 112 = .ok (.getfield 237, 3) := by decide +kernel
theorem dX11_help_115 : decode cX11_help 115 = .ok (.invokevirtual 247, 3) := by decide +kernel
theorem dX11_help_118 : decode cX11_help 118 = .ok (.ireturn, 1) := by decide +kernel
theorem dX11_back_0 : decode cX11_back 0 = .ok (.iload_n 1, 1) := by decide +kernel
theorem dX11_back_1 : decode cX11_back 1 = .ok (.ifCond .lt 11, 3) := by decide +kernel
theorem dX11_back_4 : decode cX11_back 4 = .ok (.iload_n 1, 1) := by decide +kernel
theorem dX11_back_5 : decode cX11_back 5 = .ok (.aload_n 0, 1) := by decide +kernel
theorem dX11_back_6 : decode cX11_back 6 = .ok (.getfield 213, 3) := by decide +kernel
theorem dX11_back_9 : decode cX11_back 9 = .ok (.if_icmp .le 5, 3) := by decide +kernel
theorem dX11_back_12 : decode cX11_back 12 = .ok (.iconst (-1), 1) := by decide +kernel
theorem dX11_back_13 : decode cX11_back 13 = .ok (.ireturn, 1) := by decide +kernel
theorem dX11_back_14 : decode cX11_back 14 = .ok (.aload_n 0, 1) := by decide +kernel
theorem dX11_back_15 : decode cX11_back 15 = .ok (.getfield 213, 3) := by decide +kernel
theorem dX11_back_18 : decode cX11_back 18 = .ok (.iload_n 1, 1) := by decide +kernel
theorem dX11_back_19 : decode cX11_back 19 = .ok (.isub, 1) := by decide +kernel
theorem dX11_back_20 : decode cX11_back 20 = .ok (.istore_n 2, 1) := by decide +kernel
theorem dX11_back_21 : decode cX11_back 21 = .ok (.aload_n 0, 1) := by decide +kernel
theorem dX11_back_22 : decode cX11_back 22 = .ok (.iload_n 1, 1) := by decide +kernel
theorem dX11_back_23 : decode cX11_back 23 = .ok (.invokevirtual 160, 3) := by decide +kernel
theorem dX11_back_26 : decode cX11_back 26 = .ok (.iload_n 2, 1) := by decide +kernel
theorem dX11_back_27 : decode cX11_back 27 = .ok (.ireturn, 1) := by decide +kernel
theorem dX11_about_0 : decode cX11_about 0 = .ok (.aload_n 0, 1) := by decide +kernel
theorem dX11_about_1 : decode cX11_about 1 = .ok (.iload_n 1, 1) := by decide +kernel
theorem dX11_about_2 : decode cX11_about 2 = .ok (.invokevirtual 227, 3) := by decide +kernel
theorem dX11_about_5 : decode cX11_about 5 = .ok (.ifCond .ne 5, 3) := by decide +kernel
theorem dX11_about_8 : decode cX11_about 8 = .ok (.iconst (-1), 1) := by decide +kernel
theorem dX11_about_9 : decode cX11_about 9 = .ok (.ireturn, 1) := by decide +kernel
theorem dX11_about_10 : decode cX11_about 10 = .ok (.iload_n 2, 1) := by decide +kernel
theorem dX11_about_11 : decode cX11_about 11 = .ok (.tableswitch 76 0 2 #[25, 42, 59], 25) := by decide +kernel
theorem dX11_about_36 : decode cX11_about 36 = .ok (.aload_n 0, 1) := by decide +kernel
theorem dX11_about_37 : decode cX11_about 37 = .ok (.getfield 12, 3) := by decide +kernel
theorem dX11_about_40 : decode cX11_about 40 = .ok (.aload_n 0, 1) := by decide +kernel
theorem dX11_about_41 : decode cX11_about 41 = .ok (.getfield 61, 3) := by decide +kernel
theorem dX11_about_44 : decode cX11_about 44 = .ok (.iload_n 1, 1) := by decide +kernel
theorem dX11_about_45 : decode cX11_about 45 = .ok (.aaload, 1) := by decide +kernel
theorem dX11_about_46 : decode cX11_about 46 = .ok (.getfield 224, 3) := by decide +kernel
theorem dX11_about_49 : decode cX11_about 49 = .ok (.invokevirtual 132, 3) := by decide +kernel
theorem dX11_about_52 : decode cX11_about 52 = .ok (.ireturn, 1) := by decide +kernel
theorem dX11_about_53 : decode cX11_about 53 = .ok (.aload_n 0, 1) := by decide +kernel
theorem dX11_about_54 : decode cX11_about 54 = .ok (.getfield 12, 3) := by decide +kernel
theorem dX11_about_57 : decode cX11_about 57 = .ok (.aload_n 0, 1) := by decide +kernel
theorem dX11_about_58 : decode cX11_about 58 = .ok (.getfield 61, 3) := by decide +kernel
theorem dX11_about_61 : decode cX11_about 61 = .ok (.iload_n 1, 1) := by decide +kernel
theorem dX11_about_62 : decode cX11_about 62 = .ok (.aaload, 1) := by decide +kernel
theorem dX11_about_63 : decode cX11_about 63 = .ok (.getfield 250, 3) := by decide +kernel
theorem dX11_about_66 : decode cX11_about 66 = .ok (.invokevirtual 132, 3) := by decide +kernel
theorem dX11_about_69 : decode cX11_about 69 = .ok (.ireturn, 1) := by decide +kernel
theorem dX11_about_70 : decode cX11_about 70 = .ok (.aload_n 0, 1) := by decide +kernel
theorem dX11_about_71 : decode cX11_about 71 = .ok (.getfield 12, 3) := by decide +kernel
theorem dX11_about_74 : decode cX11_about 74 = .ok (.aload_n 0, 1) := by decide +kernel
theorem dX11_about_75 : decode cX11_about 75 = .ok (.getfield 61, 3) := by decide +kernel
theorem dX11_about_78 : decode cX11_about 78 = .ok (.iload_n 1, 1) := by decide +kernel
theorem dX11_about_79 : decode cX11_about 79 = .ok (.aaload, 1) := by decide +kernel
theorem dX11_about_80 : decode cX11_about 80 = .ok (.getfield 244, 3) := by decide +kernel
theorem dX11_about_83 : decode cX11_about 83 = .ok (.invokevirtual 132, 3) := by decide +kernel
theorem dX11_about_86 : decode cX11_about 86 = .ok (.ireturn, 1) := by decide +kernel
theorem dX11_about_87 : decode cX11_about 87 = .ok (.iconst (-1), 1) := by decide +kernel
theorem dX11_about_88 : decode cX11_about 88 = .ok (.ireturn, 1) := by decide +kernel
theorem dX11_turn_0 : decode cX11_turn 0 = .ok (.aload_n 0, 1) := by decide +kernel
theorem dX11_turn_1 : decode cX11_turn 1 = .ok (.iload_n 1, 1) := by decide +kernel
theorem dX11_turn_2 : decode cX11_turn 2 = .ok (.invokevirtual 227, 3) := by decide +kernel
theorem dX11_turn_5 : decode cX11_turn 5 = .ok (.ifCond .eq 11, 3) := by decide +kernel
theorem dX11_turn_8 : decode cX11_turn 8 = .ok (.aload_n 0, 1) := by decide +kernel
theorem dX11_turn_9 : decode cX11_turn 9 = .ok (.iload_n 2, 1) := by decide +kernel
theorem dX11_turn_10 : decode cX11_turn 10 = .ok (.invokevirtual 186, 3) := by decide +kernel
theorem dX11_turn_13 : decode cX11_turn 13 = .ok (.ifCond .ne 5, 3) := by decide +kernel
theorem dX11_turn_16 : decode cX11_turn 16 = .ok (.iconst (-1), 1) := by decide +kernel
theorem dX11_turn_17 : decode cX11_turn 17 = .ok (.ireturn, 1) := by decide +kernel
theorem dX11_turn_18 : decode cX11_turn 18 = .ok (.aload_n 0, 1) := by decide +kernel
theorem dX11_turn_19 : decode cX11_turn 19 = .ok (.getfield 12, 3) := by decide +kernel
theorem dX11_turn_22 : decode cX11_turn 22 = .ok (.aload_n 0, 1) := by decide +kernel
theorem dX11_turn_23 : decode cX11_turn 23 = .ok (.getfield 61, 3) := by decide +kernel
theorem dX11_turn_26 : decode cX11_turn 26 = .ok (.iload_n 1, 1) := by decide +kernel
theorem dX11_turn_27 : decode cX11_turn 27 = .ok (.aaload, 1) := by decide +kernel
theorem dX11_turn_28 : decode cX11_turn 28 = .ok (.getfield 253, 3) := by decide +kernel
theorem dX11_turn_31 : decode cX11_turn 31 = .ok (.iload_n 2, 1) := by decide +kernel
theorem dX11_turn_32 : decode cX11_turn 32 = .ok (.iaload, 1) := by decide +kernel
theorem dX11_turn_33 : decode cX11_turn 33 = .ok (.invokevirtual 132, 3) := by decide +kernel
theorem dX11_turn_36 : decode cX11_turn 36 = .ok (.ireturn, 1) := by decide +kernel
theorem dX11_mark_0 : decode cX11_mark 0 = .ok (.aload_n 0, 1) := by decide +kernel
theorem dX11_mark_1 : decode cX11_mark 1 = .ok (.iload_n 1, 1) := by decide +kernel
theorem dX11_mark_2 : decode cX11_mark 2 = .ok (.invokevirtual 227, 3) := by decide +kernel
theorem dX11_mark_5 : decode cX11_mark 5 = .ok (.ifCond .eq 13, 3) := by decide +kernel
theorem dX11_mark_8 : decode cX11_mark 8 = .ok (.iload_n 2, 1) := by decide +kernel
theorem dX11_mark_9 : decode cX11_mark 9 = .ok (.iconst 1, 1) := by decide +kernel
theorem dX11_mark_10 : decode cX11_mark 10 = .ok (.if_icmp .lt 8, 3) := by decide +kernel
theorem dX11_mark_13 : decode cX11_mark 13 = .ok (.iload_n 2, 1) := by decide +kernel
theorem dX11_mark_14 : decode cX11_mark 14 = .ok (.iconst 5, 1) := by decide +kernel
theorem dX11_mark_15 : decode cX11_mark 15 = .ok (.if_icmp .le 5, 3) := by decide +kernel
theorem dX11_mark_18 : decode cX11_mark 18 = .ok (.iconst (-1), 1) := by decide +kernel
theorem dX11_mark_19 : decode cX11_mark 19 = .ok (.ireturn, 1) := by decide +kernel
theorem dX11_mark_20 : decode cX11_mark 20 = .ok (.aload_n 0, 1) := by decide +kernel
theorem dX11_mark_21 : decode cX11_mark 21 = .ok (.getfield 61, 3) := by decide +kernel
theorem dX11_mark_24 : decode cX11_mark 24 = .ok (.iload_n 1, 1) := by decide +kernel
theorem dX11_mark_25 : decode cX11_mark 25 = .ok (.aaload, 1) := by decide +kernel
theorem dX11_mark_26 : decode cX11_mark 26 = .ok (.astore_n 3, 1) := by decide +kernel
theorem dX11_mark_27 : decode cX11_mark 27 = .ok (.iload_n 2, 1) := by decide +kernel
theorem dX11_mark_28 : decode cX11_mark 28 = .ok (.iconst 1, 1) := by decide +kernel
theorem dX11_mark_29 : decode cX11_mark 29 = .ok (.if_icmp .ne 13, 3) := by decide +kernel
theorem dX11_mark_32 : decode cX11_mark 32 = .ok (.aload_n 3, 1) := by decide +kernel
theorem dX11_mark_33 : decode cX11_mark 33 = .ok (.invokevirtual 230, 3) := by decide +kernel
theorem dX11_mark_36 : decode cX11_mark 36 = .ok (.ifCond .ne 23, 3) := by decide +kernel
theorem dX11_mark_39 : decode cX11_mark 39 = .ok (.goto 11, 3) := by decide +kernel
theorem dX11_mark_42 : decode cX11_mark 42 = .ok (.aload_n 3, 1) := by decide +kernel
theorem dX11_mark_43 : decode cX11_mark 43 = .ok (.getfield 224, 3) := by decide +kernel
theorem dX11_mark_46 : decode cX11_mark 46 = .ok (.iload_n 2, 1) := by decide +kernel
theorem dX11_mark_47 : decode cX11_mark 47 = .ok (.if_icmp .eq 12, 3) := by decide +kernel
theorem dX11_mark_50 : decode cX11_mark 50 = .ok (.aload_n 0, 1) := by decide +kernel
theorem dX11_mark_51 : decode cX11_mark 51 = .ok (.getfield 12, 3) := by decide +kernel
theorem dX11_mark_54 : decode cX11_mark 54 = .ok (.iconst 3, 1) := by decide +kernel
theorem dX11_mark_55 : decode cX11_mark 55 = .ok (.invokevirtual 111, 3) := by decide +kernel
theorem dX11_mark_58 : decode cX11_mark 58 = .ok (.ireturn, 1) := by decide +kernel
theorem dX11_mark_59 : decode cX11_mark 59 = .ok (.iload_n 2, 1) := by decide +kernel
theorem dX11_mark_60 : decode cX11_mark 60 = .ok (.tableswitch 55 1 4 #[32, 40, 45, 50], 32) := by decide +kernel
theorem dX11_mark_92 : decode cX11_mark 92 = .ok (.aload_n 3, 1) := by decide +kernel
theorem dX11_mark_93 : decode cX11_mark 93 = .ok (.getfield 256, 3) := by decide +kernel
theorem dX11_mark_96 : decode cX11_mark 96 = .ok (.invokevirtual 247, 3) := by decide +kernel
theorem dX11_mark_99 : decode cX11_mark 99 = .ok (.ireturn, 1) := by decide +kernel
theorem dX11_mark_100 : decode cX11_mark 100 = .ok (.aload_n 3, 1) := by decide +kernel
theorem dX11_mark_101 : decode cX11_mark 101 = .ok (.getfield 259, 3) := by decide +kernel
theorem dX11_mark_104 : decode cX11_mark 104 = .ok (.ireturn, 1) := by decide +kernel
theorem dX11_mark_105 : decode cX11_mark 105 = .ok (.aload_n 3, 1) := by decide +kernel
theorem dX11_mark_106 : decode cX11_mark 106 = .ok (.getfield 262, 3) := by decide +kernel
theorem dX11_mark_109 : decode cX11_mark 109 = .ok (.ireturn, 1) := by decide +kernel
theorem dX11_mark_110 : decode cX11_mark 110 = .ok (.aload_n 3, 1) := by decide +kernel
theorem dX11_mark_111 : decode cX11_mark 111 = .ok (.getfield 244, 3) := by decide +kernel
theorem dX11_mark_114 : decode cX11_mark 114 = .ok (.ireturn, 1) := by decide +kernel
theorem dX11_mark_115 : decode cX11_mark 115 = .ok (.aload_n 3, 1) := by decide +kernel
theorem dX11_mark_116 : decode cX11_mark 116 = .ok (.getfield 237, 3) := by decide +kernel
theorem dX11_mark_119 : decode cX11_mark 119 = .ok (.invokevirtual 247, 3) := by decide +kernel
theorem dX11_mark_122 : decode cX11_mark 122 = .ok (.ireturn, 1) := by decide +kernel
theorem dX11_shape_0 : decode cX11_shape 0 = .ok (.aload_n 0, 1) := by decide +kernel
theorem dX11_shape_1 : decode cX11_shape 1 = .ok (.iload_n 1, 1) := by decide +kernel
theorem dX11_shape_2 : decode cX11_shape 2 = .ok (.invokevirtual 227, 3) := by decide +kernel
theorem dX11_shape_5 : decode cX11_shape 5 = .ok (.ifCond .eq 10, 3) := by decide +kernel
theorem dX11_shape_8 : decode cX11_shape 8 = .ok (.iload_n 2, 1) := by decide +kernel
theorem dX11_shape_9 : decode cX11_shape 9 = .ok (.invokestatic 107, 3) := by decide +kernel
theorem dX11_shape_12 : decode cX11_shape 12 = .ok (.ifCond .ne 5, 3) := by decide +kernel
theorem dX11_shape_15 : decode cX11_shape 15 = .ok (.iconst (-1), 1) := by decide +kernel
theorem dX11_shape_16 : decode cX11_shape 16 = .ok (.ireturn, 1) := by decide +kernel
theorem dX11_shape_17 : decode cX11_shape 17 = .ok (.aload_n 0, 1) := by decide +kernel
theorem dX11_shape_18 : decode cX11_shape 18 = .ok (.getfield 18, 3) := by decide +kernel
theorem dX11_shape_21 : decode cX11_shape 21 = .ok (.iload_n 2, 1) := by decide +kernel
theorem dX11_shape_22 : decode cX11_shape 22 = .ok (.aaload, 1) := by decide +kernel
theorem dX11_shape_23 : decode cX11_shape 23 = .ok (.aload_n 0, 1) := by decide +kernel
theorem dX11_shape_24 : decode cX11_shape 24 = .ok (.getfield 61, 3) := by decide +kernel
theorem dX11_shape_27 : decode cX11_shape 27 = .ok (.iload_n 1, 1) := by decide +kernel
theorem dX11_shape_28 : decode cX11_shape 28 = .ok (.aaload, 1) := by decide +kernel
theorem dX11_shape_29 : decode cX11_shape 29 = .ok (.getfield 256, 3) := by decide +kernel
theorem dX11_shape_32 : decode cX11_shape 32 = .ok (.invokevirtual 265, 3) := by decide +kernel
theorem dX11_shape_35 : decode cX11_shape 35 = .ok (.aload_n 0, 1) := by decide +kernel
theorem dX11_shape_36 : decode cX11_shape 36 = .ok (.getfield 61, 3) := by decide +kernel
theorem dX11_shape_39 : decode cX11_shape 39 = .ok (.iload_n 1, 1) := by decide +kernel
theorem dX11_shape_40 : decode cX11_shape 40 = .ok (.aaload, 1) := by decide +kernel
theorem dX11_shape_41 : decode cX11_shape 41 = .ok (.getfield 256, 3) := by decide +kernel
theorem dX11_shape_44 : decode cX11_shape 44 = .ok (.invokevirtual 247, 3) := by decide +kernel
theorem dX11_shape_47 : decode cX11_shape 47 = .ok (.ireturn, 1) := by decide +kernel
theorem dX11_thrown_0 : decode cX11_thrown 0 = .ok (.aload_n 0, 1) := by decide +kernel
theorem dX11_thrown_1 : decode cX11_thrown 1 = .ok (.iload_n 1, 1) := by decide +kernel
theorem dX11_thrown_2 : decode cX11_thrown 2 = .ok (.invokevirtual 227, 3) := by decide +kernel
theorem dX11_thrown_5 : decode cX11_thrown 5 = .ok (.ifCond .eq 10, 3) := by decide +kernel
theorem dX11_thrown_8 : decode cX11_thrown 8 = .ok (.iload_n 2, 1) := by decide +kernel
theorem dX11_thrown_9 : decode cX11_thrown 9 = .ok (.invokestatic 107, 3) := by decide +kernel
theorem dX11_thrown_12 : decode cX11_thrown 12 = .ok (.ifCond .ne 5, 3) := by decide +kernel
theorem dX11_thrown_15 : decode cX11_thrown 15 = .ok (.iconst (-1), 1) := by decide +kernel
theorem dX11_thrown_16 : decode cX11_thrown 16 = .ok (.ireturn, 1) := by decide +kernel
theorem dX11_thrown_17 : decode cX11_thrown 17 = .ok (.aload_n 0, 1) := by decide +kernel
theorem dX11_thrown_18 : decode cX11_thrown 18 = .ok (.getfield 61, 3) := by decide +kernel
theorem dX11_thrown_21 : decode cX11_thrown 21 = .ok (.iload_n 1, 1) := by decide +kernel
theorem dX11_thrown_22 : decode cX11_thrown 22 = .ok (.aaload, 1) := by decide +kernel
theorem dX11_thrown_23 : decode cX11_thrown 23 = .ok (.aload_n 0, 1) := by decide +kernel
theorem dX11_thrown_24 : decode cX11_thrown 24 = .ok (.getfield 48, 3) := by decide +kernel
theorem dX11_thrown_27 : decode cX11_thrown 27 = .ok (.aload_n 0, 1) := by decide +kernel
theorem dX11_thrown_28 : decode cX11_thrown 28 = .ok (.getfield 97, 3) := by decide +kernel
theorem dX11_thrown_31 : decode cX11_thrown 31 = .ok (.invokevirtual 268, 3) := by decide +kernel
theorem dX11_thrown_34 : decode cX11_thrown 34 = .ok (.aload_n 0, 1) := by decide +kernel
theorem dX11_thrown_35 : decode cX11_thrown 35 = .ok (.getfield 18, 3) := by decide +kernel
theorem dX11_thrown_38 : decode cX11_thrown 38 = .ok (.iload_n 2, 1) := by decide +kernel
theorem dX11_thrown_39 : decode cX11_thrown 39 = .ok (.aaload, 1) := by decide +kernel
theorem dX11_thrown_40 : decode cX11_thrown 40 = .ok (.aload_n 0, 1) := by decide +kernel
theorem dX11_thrown_41 : decode cX11_thrown 41 = .ok (.getfield 97, 3) := by decide +kernel
theorem dX11_thrown_44 : decode cX11_thrown 44 = .ok (.invokevirtual 265, 3) := by decide +kernel
theorem dX11_thrown_47 : decode cX11_thrown 47 = .ok (.aload_n 0, 1) := by decide +kernel
theorem dX11_thrown_48 : decode cX11_thrown 48 = .ok (.getfield 97, 3) := by decide +kernel
theorem dX11_thrown_51 : decode cX11_thrown 51 = .ok (.invokevirtual 247, 3) := by decide +kernel
theorem dX11_thrown_54 : decode cX11_thrown 54 = .ok (.ireturn, 1) := by decide +kernel
theorem dX11_beast_0 : decode cX11_beast 0 = .ok (.iload_n 1, 1) := by decide +kernel
theorem dX11_beast_1 : decode cX11_beast 1 = .ok (.invokestatic 272, 3) := by decide +kernel
theorem dX11_beast_4 : decode cX11_beast 4 = .ok (.ifCond .eq 28, 3) := by decide +kernel
theorem dX11_beast_7 : decode cX11_beast 7 = .ok (.iload_n 2, 1) := by decide +kernel
theorem dX11_beast_8 : decode cX11_beast 8 = .ok (.invokestatic 107, 3) := by decide +kernel
theorem dX11_beast_11 : decode cX11_beast 11 = .ok (.ifCond .eq 21, 3) := by decide +kernel
theorem dX11_beast_14 : decode cX11_beast 14 = .ok (.iload_n 3, 1) := by decide +kernel
theorem dX11_beast_15 : decode cX11_beast 15 = .ok (.invokestatic 107, 3) := by decide +kernel
theorem dX11_beast_18 : decode cX11_beast 18 = .ok (.ifCond .eq 14, 3) := by decide +kernel
theorem dX11_beast_21 : decode cX11_beast 21 = .ok (.iload 4, 2) := by decide +kernel
theorem dX11_beast_23 : decode cX11_beast 23 = .ok (.ifCond .lt 9, 3) := by decide +kernel
theorem dX11_beast_26 : decode cX11_beast 26 = .ok (.iload 4, 2) := by decide +kernel
theorem dX11_beast_28 : decode cX11_beast 28 = .ok (.iconst 1, 1) := by decide +kernel
theorem dX11_beast_29 : decode cX11_beast 29 = .ok (.if_icmp .le 5, 3) := by decide +kernel
theorem dX11_beast_32 : decode cX11_beast 32 = .ok (.iconst (-1), 1) := by decide +kernel
theorem dX11_beast_33 : decode cX11_beast 33 = .ok (.ireturn, 1) := by decide +kernel
theorem dX11_beast_34 : decode cX11_beast 34 = .ok (.aload_n 0, 1) := by decide +kernel
theorem dX11_beast_35 : decode cX11_beast 35 = .ok (.getfield 18, 3) := by decide +kernel
theorem dX11_beast_38 : decode cX11_beast 38 = .ok (.iload_n 2, 1) := by decide +kernel
theorem dX11_beast_39 : decode cX11_beast 39 = .ok (.aaload, 1) := by decide +kernel
theorem dX11_beast_40 : decode cX11_beast 40 = .ok (.aload_n 0, 1) := by decide +kernel
theorem dX11_beast_41 : decode cX11_beast 41 = .ok (.getfield 18, 3) := by decide +kernel
theorem dX11_beast_44 : decode cX11_beast 44 = .ok (.iload_n 3, 1) := by decide +kernel
theorem dX11_beast_45 : decode cX11_beast 45 = .ok (.aaload, 1) := by decide +kernel
theorem dX11_beast_46 : decode cX11_beast 46 = .ok (.invokestatic 233, 3) := by decide +kernel
theorem dX11_beast_49 : decode cX11_beast 49 = .ok (.istore 5, 2) := by decide +kernel
theorem dX11_beast_51 : decode cX11_beast 51 = .ok (.iload 5, 2) := by decide +kernel
theorem dX11_beast_53 : decode cX11_beast 53 = .ok (.ifCond .eq 13, 3) := by decide +kernel
theorem dX11_beast_56 : decode cX11_beast 56 = .ok (.aload_n 0, 1) := by decide +kernel
theorem dX11_beast_57 : decode cX11_beast 57 = .ok (.getfield 12, 3) := by decide +kernel
theorem dX11_beast_60 : decode cX11_beast 60 = .ok (.iload 5, 2) := by decide +kernel
theorem dX11_beast_62 : decode cX11_beast 62 = .ok (.invokevirtual 111, 3) := by decide +kernel
theorem dX11_beast_65 : decode cX11_beast 65 = .ok (.ireturn, 1) := by decide +kernel
theorem dX11_beast_66 : decode cX11_beast 66 = .ok (.aload_n 0, 1) := by decide +kernel
theorem dX11_beast_67 : decode cX11_beast 67 = .ok (.getfield 18, 3) := by decide +kernel
theorem dX11_beast_70 : decode cX11_beast 70 = .ok (.iload_n 2, 1) := by decide +kernel
theorem dX11_beast_71 : decode cX11_beast 71 = .ok (.aaload, 1) := by decide +kernel
theorem dX11_beast_72 : decode cX11_beast 72 = .ok (.aload_n 0, 1) := by decide +kernel
theorem dX11_beast_73 : decode cX11_beast 73 = .ok (.getfield 68, 3) := by decide +kernel
theorem dX11_beast_76 : decode cX11_beast 76 = .ok (.iload_n 1, 1) := by decide +kernel
theorem dX11_beast_77 : decode cX11_beast 77 = .ok (.aaload, 1) := by decide +kernel
theorem dX11_beast_78 : decode cX11_beast 78 = .ok (.getfield 275, 3) := by decide +kernel
theorem dX11_beast_81 : decode cX11_beast 81 = .ok (.invokevirtual 240, 3) := by decide +kernel
theorem dX11_beast_84 : decode cX11_beast 84 = .ok (.aload_n 0, 1) := by decide +kernel
theorem dX11_beast_85 : decode cX11_beast 85 = .ok (.getfield 18, 3) := by decide +kernel
theorem dX11_beast_88 : decode cX11_beast 88 = .ok (.iload_n 3, 1) := by decide +kernel
theorem dX11_beast_89 : decode cX11_beast 89 = .ok (.aaload, 1) := by decide +kernel
theorem dX11_beast_90 : decode cX11_beast 90 = .ok (.aload_n 0, 1) := by decide +kernel
theorem dX11_beast_91 : decode cX11_beast 91 = .ok (.getfield 68, 3) := by decide +kernel
theorem dX11_beast_94 : decode cX11_beast 94 = .ok (.iload_n 1, 1) := by decide +kernel
theorem dX11_beast_95 : decode cX11_beast 95 = .ok (.aaload, 1) := by decide +kernel
theorem dX11_beast_96 : decode cX11_beast 96 = .ok (.getfield 278, 3) := by decide +kernel
theorem dX11_beast_99 : decode cX11_beast 99 = .ok (.invokevirtual 240, 3) := by decide +kernel
theorem dX11_beast_102 : decode cX11_beast 102 = .ok (.aload_n 0, 1) := by decide +kernel
theorem dX11_beast_103 : decode cX11_beast 103 = .ok (.getfield 68, 3) := by decide +kernel
theorem dX11_beast_106 : decode cX11_beast 106 = .ok (.iload_n 1, 1) := by decide +kernel
theorem dX11_beast_107 : decode cX11_beast 107 = .ok (.aaload, 1) := by decide +kernel
theorem dX11_beast_108 : decode cX11_beast 108 = .ok (.iload 4, 2) := by decide +kernel
theorem dX11_beast_110 : decode cX11_beast 110 = .ok (.putfield 281, 3) := by decide +kernel
theorem dX11_beast_113 : decode cX11_beast 113 = .ok (.aload_n 0, 1) := by decide +kernel
theorem dX11_beast_114 : decode cX11_beast 114 = .ok (.getfield 68, 3) := by decide +kernel
theorem dX11_beast_117 : decode cX11_beast 117 = .ok (.iload_n 1, 1) := by decide +kernel
theorem dX11_beast_118 : decode cX11_beast 118 = .ok (.aaload, 1) := by decide +kernel
theorem dX11_beast_119 : decode cX11_beast 119 = .ok (.iconst 1, 1) := by decide +kernel
theorem dX11_beast_120 : decode cX11_beast 120 = .ok (.putfield 284, 3) := by decide +kernel
theorem dX11_beast_123 : decode cX11_beast 123 = .ok (.aload_n 0, 1) := by decide +kernel
theorem dX11_beast_124 : decode cX11_beast 124 = .ok (.getfield 68, 3) := by decide +kernel
theorem dX11_beast_127 : decode cX11_beast 127 = .ok (.iload_n 1, 1) := by decide +kernel
theorem dX11_beast_128 : decode cX11_beast 128 = .ok (.aaload, 1) := by decide +kernel
theorem dX11_beast_129 : decode cX11_beast 129 = .ok (.getfield 275, 3) := by decide +kernel
theorem dX11_beast_132 : decode cX11_beast 132 = .ok (.invokevirtual 247, 3) := by decide +kernel
theorem dX11_beast_135 : decode cX11_beast 135 = .ok (.ireturn, 1) := by decide +kernel
theorem dX11_off_0 : decode cX11_off 0 = .ok (.aload_n 0, 1) := by decide +kernel
theorem dX11_off_1 : decode cX11_off 1 = .ok (.iload_n 1, 1) := by decide +kernel
theorem dX11_off_2 : decode cX11_off 2 = .ok (.invokevirtual 227, 3) := by decide +kernel
theorem dX11_off_5 : decode cX11_off 5 = .ok (.ifCond .eq 10, 3) := by decide +kernel
theorem dX11_off_8 : decode cX11_off 8 = .ok (.iload_n 2, 1) := by decide +kernel
theorem dX11_off_9 : decode cX11_off 9 = .ok (.invokestatic 272, 3) := by decide +kernel
theorem dX11_off_12 : decode cX11_off 12 = .ok (.ifCond .ne 5, 3) := by decide +kernel
theorem dX11_off_15 : decode cX11_off 15 = .ok (.iconst (-1), 1) := by decide +kernel
theorem dX11_off_16 : decode cX11_off 16 = .ok (.ireturn, 1) := by decide +kernel
theorem dX11_off_17 : decode cX11_off 17 = .ok (.aload_n 0, 1) := by decide +kernel
theorem dX11_off_18 : decode cX11_off 18 = .ok (.getfield 68, 3) := by decide +kernel
theorem dX11_off_21 : decode cX11_off 21 = .ok (.iload_n 2, 1) := by decide +kernel
theorem dX11_off_22 : decode cX11_off 22 = .ok (.aaload, 1) := by decide +kernel
theorem dX11_off_23 : decode cX11_off 23 = .ok (.getfield 284, 3) := by decide +kernel
theorem dX11_off_26 : decode cX11_off 26 = .ok (.ifCond .ne 12, 3) := by decide +kernel
theorem dX11_off_29 : decode cX11_off 29 = .ok (.aload_n 0, 1) := by decide +kernel
theorem dX11_off_30 : decode cX11_off 30 = .ok (.getfield 12, 3) := by decide +kernel
theorem dX11_off_33 : decode cX11_off 33 = .ok (.iconst 1, 1) := by decide +kernel
theorem dX11_off_34 : decode cX11_off 34 = .ok (.invokevirtual 111, 3) := by decide +kernel
theorem dX11_off_37 : decode cX11_off 37 = .ok (.ireturn, 1) := by decide +kernel
theorem dX11_off_38 : decode cX11_off 38 = .ok (.aload_n 0, 1) := by decide +kernel
theorem dX11_off_39 : decode cX11_off 39 = .ok (.getfield 61, 3) := by decide +kernel
theorem dX11_off_42 : decode cX11_off 42 = .ok (.iload_n 1, 1) := by decide +kernel
theorem dX11_off_43 : decode cX11_off 43 = .ok (.aaload, 1) := by decide +kernel
theorem dX11_off_44 : decode cX11_off 44 = .ok (.aload_n 0, 1) := by decide +kernel
theorem dX11_off_45 : decode cX11_off 45 = .ok (.getfield 48, 3) := by decide +kernel
theorem dX11_off_48 : decode cX11_off 48 = .ok (.aload_n 0, 1) := by decide +kernel
theorem dX11_off_49 : decode cX11_off 49 = .ok (.getfield 97, 3) := by decide +kernel
theorem dX11_off_52 : decode cX11_off 52 = .ok (.invokevirtual 268, 3) := by decide +kernel
theorem dX11_off_55 : decode cX11_off 55 = .ok (.aload_n 0, 1) := by decide +kernel
theorem dX11_off_56 : decode cX11_off 56 = .ok (.getfield 12, 3) := by decide +kernel
theorem dX11_off_59 : decode cX11_off 59 = .ok (.aload_n 0, 1) := by decide +kernel
theorem dX11_off_60 : decode cX11_off 60 = .ok (.getfield 68, 3) := by decide +kernel
theorem dX11_off_63 : decode cX11_off 63 = .ok (.iload_n 2, 1) := by decide +kernel
theorem dX11_off_64 : decode cX11_off 64 = .ok (.aaload, 1) := by decide +kernel
theorem dX11_off_65 : decode cX11_off 65 = .ok (.aload_n 0, 1) := by decide +kernel
theorem dX11_off_66 : decode cX11_off 66 = .ok (.getfield 97, 3) := by decide +kernel
theorem dX11_off_69 : decode cX11_off 69 = .ok (.getfield 288, 3) := by decide +kernel
theorem dX11_off_72 : decode cX11_off 72 = .ok (.aload_n 0, 1) := by decide +kernel
theorem dX11_off_73 : decode cX11_off 73 = .ok (.getfield 97, 3) := by decide +kernel
theorem dX11_off_76 : decode cX11_off 76 = .ok (.getfield 292, 3) := by decide +kernel
theorem dX11_off_79 : decode cX11_off 79 = .ok (.invokevirtual 295, 3) := by decide +kernel
theorem dX11_off_82 : decode cX11_off 82 = .ok (.invokevirtual 132, 3) := by decide +kernel
theorem dX11_off_85 : decode cX11_off 85 = .ok (.pop, 1) := by decide +kernel
theorem dX11_off_86 : decode cX11_off 86 = .ok (.aload_n 0, 1) := by decide +kernel
theorem dX11_off_87 : decode cX11_off 87 = .ok (.getfield 68, 3) := by decide +kernel
theorem dX11_off_90 : decode cX11_off 90 = .ok (.iload_n 2, 1) := by decide +kernel
theorem dX11_off_91 : decode cX11_off 91 = .ok (.aaload, 1) := by decide +kernel
theorem dX11_off_92 : decode cX11_off 92 = .ok (.aload_n 0, 1) := by decide +kernel
theorem dX11_off_93 : decode cX11_off 93 = .ok (.getfield 97, 3) := by decide +kernel
theorem dX11_off_96 : decode cX11_off 96 = .ok (.getfield 288, 3) := by decide +kernel
theorem dX11_off_99 : decode cX11_off 99 = .ok (.aload_n 0, 1) := by decide +kernel
theorem dX11_off_100 : decode cX11_off 100 = .ok (.getfield 97, 3) := by decide +kernel
theorem dX11_off_103 : decode cX11_off 103 = .ok (.getfield 292, 3) := by decide +kernel
theorem dX11_off_106 : decode cX11_off 106 = .ok (.invokevirtual 299, 3) := by decide +kernel
theorem dX11_off_109 : decode cX11_off 109 = .ok (.ireturn, 1) := by decide +kernel
theorem dX11_many_0 : decode cX11_many 0 = .ok (.aload_n 0, 1) := by decide +kernel
theorem dX11_many_1 : decode cX11_many 1 = .ok (.getfield 83, 3) := by decide +kernel
theorem dX11_many_4 : decode cX11_many 4 = .ok (.getfield 302, 3) := by decide +kernel
theorem dX11_many_7 : decode cX11_many 7 = .ok (.ifCond .eq 6, 3) := by decide +kernel
theorem dX11_many_10 : decode cX11_many 10 = .ok (.bipush (-6), 2) := by decide +kernel
theorem dX11_many_12 : decode cX11_many 12 = .ok (.ireturn, 1) := by decide +kernel
theorem dX11_many_13 : decode cX11_many 13 = .ok (.iconst 0, 1) := by decide +kernel
theorem dX11_many_14 : decode cX11_many 14 = .ok (.istore_n 1, 1) := by decide +kernel
theorem dX11_many_15 : decode cX11_many 15 = .ok (.iconst 0, 1) := by decide +kernel
theorem dX11_many_16 : decode cX11_many 16 = .ok (.istore_n 2, 1) := by decide +kernel
theorem dX11_many_17 : decode cX11_many 17 = .ok (.iconst 0, 1) := by decide +kernel
theorem dX11_many_18 : decode cX11_many 18 = .ok (.istore_n 3, 1) := by decide +kernel
theorem dX11_many_19 : decode cX11_many 19 = .ok (.iload_n 3, 1) := by decide +kernel
theorem dX11_many_20 : decode cX11_many 20 = .ok (.aload_n 0, 1) := by decide +kernel
theorem dX11_many_21 : decode cX11_many 21 = .ok (.getfield 83, 3) := by decide +kernel
theorem dX11_many_24 : decode cX11_many 24 = .ok (.getfield 305, 3) := by decide +kernel
theorem dX11_many_27 : decode cX11_many 27 = .ok (.if_icmp .ge 44, 3) := by decide +kernel
theorem dX11_many_30 : decode cX11_many 30 = .ok (.aload_n 0, 1) := by decide +kernel
theorem dX11_many_31 : decode cX11_many 31 = .ok (.getfield 83, 3) := by decide +kernel
theorem dX11_many_34 : decode cX11_many 34 = .ok (.iload_n 3, 1) := by decide +kernel
theorem dX11_many_35 : decode cX11_many 35 = .ok (.aload_n 0, 1) := by decide +kernel
theorem dX11_many_36 : decode cX11_many 36 = .ok (.getfield 55, 3) := by decide +kernel
theorem dX11_many_39 : decode cX11_many 39 = .ok (.invokevirtual 306, 3) := by decide +kernel
theorem dX11_many_42 : decode cX11_many 42 = .ok (.ifCond .eq 9, 3) := by decide +kernel
theorem dX11_many_45 : decode cX11_many 45 = .ok (.iinc 1 1, 3) := by decide +kernel
theorem dX11_many_48 : decode cX11_many 48 = .ok (.goto 17, 3) := by decide +kernel
theorem dX11_many_51 : decode cX11_many 51 = .ok (.aload_n 0, 1) := by decide +kernel
theorem dX11_many_52 : decode cX11_many 52 = .ok (.getfield 83, 3) := by decide +kernel
theorem dX11_many_55 : decode cX11_many 55 = .ok (.iload_n 3, 1) := by decide +kernel
theorem dX11_many_56 : decode cX11_many 56 = .ok (.invokevirtual 308, 3) := by decide +kernel
theorem dX11_many_59 : decode cX11_many 59 = .ok (.ifCond .ne 6, 3) := by decide +kernel
theorem dX11_many_62 : decode cX11_many 62 = .ok (.iinc 2 1, 3) := by decide +kernel
theorem dX11_many_65 : decode cX11_many 65 = .ok (.iinc 3 1, 3) := by decide +kernel
theorem dX11_many_68 : decode cX11_many 68 = .ok (.goto (-49), 3) := by decide +kernel
theorem dX11_many_71 : decode cX11_many 71 = .ok (.aload_n 0, 1) := by decide +kernel
theorem dX11_many_72 : decode cX11_many 72 = .ok (.getfield 12, 3) := by decide +kernel
theorem dX11_many_75 : decode cX11_many 75 = .ok (.iload_n 2, 1) := by decide +kernel
theorem dX11_many_76 : decode cX11_many 76 = .ok (.invokevirtual 132, 3) := by decide +kernel
theorem dX11_many_79 : decode cX11_many 79 = .ok (.pop, 1) := by decide +kernel
theorem dX11_many_80 : decode cX11_many 80 = .ok (.iload_n 1, 1) := by decide +kernel
theorem dX11_many_81 : decode cX11_many 81 = .ok (.ireturn, 1) := by decide +kernel
theorem dX11_nearest_0 : decode cX11_nearest 0 = .ok (.iload_n 1, 1) := by decide +kernel
theorem dX11_nearest_1 : decode cX11_nearest 1 = .ok (.invokestatic 272, 3) := by decide +kernel
theorem dX11_nearest_4 : decode cX11_nearest 4 = .ok (.ifCond .eq 10, 3) := by decide +kernel
theorem dX11_nearest_7 : decode cX11_nearest 7 = .ok (.iload_n 2, 1) := by decide +kernel
theorem dX11_nearest_8 : decode cX11_nearest 8 = .ok (.invokestatic 107, 3) := by decide +kernel
theorem dX11_nearest_11 : decode cX11_nearest 11 = .ok (.ifCond .ne 5, 3) := by decide +kernel
theorem dX11_nearest_14 : decode cX11_nearest 14 = .ok (.iconst (-1), 1) := by decide +kernel
theorem dX11_nearest_15 : decode cX11_nearest 15 = .ok (.ireturn, 1) := by decide +kernel
theorem dX11_nearest_16 : decode cX11_nearest 16 = .ok (.aload_n 0, 1) := by decide +kernel
theorem dX11_nearest_17 : decode cX11_nearest 17 = .ok (.getfield 68, 3) := by decide +kernel
theorem dX11_nearest_20 : decode cX11_nearest 20 = .ok (.iload_n 1, 1) := by decide +kernel
theorem dX11_nearest_21 : decode cX11_nearest 21 = .ok (.aaload, 1) := by decide +kernel
theorem dX11_nearest_22 : decode cX11_nearest 22 = .ok (.getfield 284, 3) := by decide +kernel
theorem dX11_nearest_25 : decode cX11_nearest 25 = .ok (.ifCond .ne 12, 3) := by decide +kernel
theorem dX11_nearest_28 : decode cX11_nearest 28 = .ok (.aload_n 0, 1) := by decide +kernel
theorem dX11_nearest_29 : decode cX11_nearest 29 = .ok (.getfield 12, 3) := by decide +kernel
theorem dX11_nearest_32 : decode cX11_nearest 32 = .ok (.iconst 1, 1) := by decide +kernel
theorem dX11_nearest_33 : decode cX11_nearest 33 = .ok (.invokevirtual 111, 3) := by decide +kernel
theorem dX11_nearest_36 : decode cX11_nearest 36 = .ok (.ireturn, 1) := by decide +kernel
theorem dX11_nearest_37 : decode cX11_nearest 37 = .ok (.aload_n 0, 1) := by decide +kernel
theorem dX11_nearest_38 : decode cX11_nearest 38 = .ok (.getfield 83, 3) := by decide +kernel
theorem dX11_nearest_41 : decode cX11_nearest 41 = .ok (.getfield 302, 3) := by decide +kernel
theorem dX11_nearest_44 : decode cX11_nearest 44 = .ok (.ifCond .eq 6, 3) := by decide +kernel
theorem dX11_nearest_47 : decode cX11_nearest 47 = .ok (.bipush (-6), 2) := by decide +kernel
theorem dX11_nearest_49 : decode cX11_nearest 49 = .ok (.ireturn, 1) := by decide +kernel
theorem dX11_nearest_50 : decode cX11_nearest 50 = .ok (.aload_n 0, 1) := by decide +kernel
theorem dX11_nearest_51 : decode cX11_nearest 51 = .ok (.getfield 83, 3) := by decide +kernel
theorem dX11_nearest_54 : decode cX11_nearest 54 = .ok (.aload_n 0, 1) := by decide +kernel
theorem dX11_nearest_55 : decode cX11_nearest 55 = .ok (.getfield 38, 3) := by decide +kernel
theorem dX11_nearest_58 : decode cX11_nearest 58 = .ok (.aload_n 0, 1) := by decide +kernel
theorem dX11_nearest_59 : decode cX11_nearest 59 = .ok (.getfield 48, 3) := by decide +kernel
theorem dX11_nearest_62 : decode cX11_nearest 62 = .ok (.iconst (-1), 1) := by decide +kernel
theorem dX11_nearest_63 : decode cX11_nearest 63 = .ok (.invokevirtual 311, 3) := by decide +kernel
theorem dX11_nearest_66 : decode cX11_nearest 66 = .ok (.aload_n 0, 1) := by decide +kernel
theorem dX11_nearest_67 : decode cX11_nearest 67 = .ok (.getfield 83, 3) := by decide +kernel
theorem dX11_nearest_70 : decode cX11_nearest 70 = .ok (.aload_n 0, 1) := by decide +kernel
theorem dX11_nearest_71 : decode cX11_nearest 71 = .ok (.getfield 38, 3) := by decide +kernel
theorem dX11_nearest_74 : decode cX11_nearest 74 = .ok (.aload_n 0, 1) := by decide +kernel
theorem dX11_nearest_75 : decode cX11_nearest 75 = .ok (.getfield 68, 3) := by decide +kernel
theorem dX11_nearest_78 : decode cX11_nearest 78 = .ok (.iload_n 1, 1) := by decide +kernel
theorem dX11_nearest_79 : decode cX11_nearest 79 = .ok (.aaload, 1) := by decide +kernel
theorem dX11_nearest_80 : decode cX11_nearest 80 = .ok (.aload_n 0, 1) := by decide +kernel
theorem dX11_nearest_81 : decode cX11_nearest 81 = .ok (.getfield 55, 3) := by decide +kernel
theorem dX11_nearest_84 : decode cX11_nearest 84 = .ok (.bipush (-9), 2) := by decide +kernel
theorem dX11_nearest_86 : decode cX11_nearest 86 = .ok (.invokevirtual 315, 3) := by decide +kernel
theorem dX11_nearest_89 : decode cX11_nearest 89 = .ok (.istore_n 3, 1) := by decide +kernel
theorem dX11_nearest_90 : decode cX11_nearest 90 = .ok (.iload_n 3, 1) := by decide +kernel
theorem dX11_nearest_91 : decode cX11_nearest 91 = .ok (.bipush (-9), 2) := by decide +kernel
theorem dX11_nearest_93 : decode cX11_nearest 93 = .ok (.if_icmp .ne 6, 3) := by decide +kernel
theorem dX11_nearest_96 : decode cX11_nearest 96 = .ok (.bipush (-9), 2) := by decide +kernel
theorem dX11_nearest_98 : decode cX11_nearest 98 = .ok (.ireturn, 1) := by decide +kernel
theorem dX11_nearest_99 : decode cX11_nearest 99 = .ok (.aload_n 0, 1) := by decide +kernel
theorem dX11_nearest_100 : decode cX11_nearest 100 = .ok (.getfield 18, 3) := by decide +kernel
theorem dX11_nearest_103 : decode cX11_nearest 103 = .ok (.iload_n 2, 1) := by decide +kernel
theorem dX11_nearest_104 : decode cX11_nearest 104 = .ok (.aaload, 1) := by decide +kernel
theorem dX11_nearest_105 : decode cX11_nearest 105 = .ok (.aload_n 0, 1) := by decide +kernel
theorem dX11_nearest_106 : decode cX11_nearest 106 = .ok (.getfield 38, 3) := by decide +kernel
theorem dX11_nearest_109 : decode cX11_nearest 109 = .ok (.getfield 167, 3) := by decide +kernel
theorem dX11_nearest_112 : decode cX11_nearest 112 = .ok (.iconst 0, 1) := by decide +kernel
theorem dX11_nearest_113 : decode cX11_nearest 113 = .ok (.invokevirtual 115, 3) := by decide +kernel
theorem dX11_nearest_116 : decode cX11_nearest 116 = .ok (.iconst 0, 1) := by decide +kernel
theorem dX11_nearest_117 : decode cX11_nearest 117 = .ok (.istore 4, 2) := by decide +kernel
theorem dX11_nearest_119 : decode cX11_nearest 119 = .ok (.iload 4, 2) := by decide +kernel
theorem dX11_nearest_121 : decode cX11_nearest 121 = .ok (.aload_n 0, 1) := by decide +kernel
theorem dX11_nearest_122 : decode cX11_nearest 122 = .ok (.getfield 38, 3) := by decide +kernel
theorem dX11_nearest_125 : decode cX11_nearest 125 = .ok (.getfield 167, 3) := by decide +kernel
theorem dX11_nearest_128 : decode cX11_nearest 128 = .ok (.if_icmp .ge 34, 3) := by decide +kernel
theorem dX11_nearest_131 : decode cX11_nearest 131 = .ok (.aload_n 0, 1) := by decide +kernel
theorem dX11_nearest_132 : decode cX11_nearest 132 = .ok (.getfield 18, 3) := by decide +kernel
theorem dX11_nearest_135 : decode cX11_nearest 135 = .ok (.iload_n 2, 1) := by decide +kernel
theorem dX11_nearest_136 : decode cX11_nearest 136 = .ok (.aaload, 1) := by decide +kernel
theorem dX11_nearest_137 : decode cX11_nearest 137 = .ok (.iload 4, 2) := by decide +kernel
theorem dX11_nearest_139 : decode cX11_nearest 139 = .ok (.aload_n 0, 1) := by decide +kernel
theorem dX11_nearest_140 : decode cX11_nearest 140 = .ok (.getfield 83, 3) := by decide +kernel
theorem dX11_nearest_143 : decode cX11_nearest 143 = .ok (.aload_n 0, 1) := by decide +kernel
theorem dX11_nearest_144 : decode cX11_nearest 144 = .ok (.getfield 38, 3) := by decide +kernel
theorem dX11_nearest_147 : decode cX11_nearest 147 = .ok (.iload_n 3, 1) := by decide +kernel
theorem dX11_nearest_148 : decode cX11_nearest 148 = .ok (.iload 4, 2) := by decide +kernel
theorem dX11_nearest_150 : decode cX11_nearest 150 = .ok (.invokevirtual 319, 3) := by decide +kernel
theorem dX11_nearest_153 : decode cX11_nearest 153 = .ok (.invokevirtual 129, 3) := by decide +kernel
theorem dX11_nearest_156 : decode cX11_nearest 156 = .ok (.iinc 4 1, 3) := by decide +kernel
theorem dX11_nearest_159 : decode cX11_nearest 159 = .ok (.goto (-40), 3) := by decide +kernel
theorem dX11_nearest_162 : decode cX11_nearest 162 = .ok (.aload_n 0, 1) := by decide +kernel
theorem dX11_nearest_163 : decode cX11_nearest 163 = .ok (.getfield 83, 3) := by decide +kernel
theorem dX11_nearest_166 : decode cX11_nearest 166 = .ok (.aload_n 0, 1) := by decide +kernel
theorem dX11_nearest_167 : decode cX11_nearest 167 = .ok (.getfield 68, 3) := by decide +kernel
theorem dX11_nearest_170 : decode cX11_nearest 170 = .ok (.iload_n 1, 1) := by decide +kernel
theorem dX11_nearest_171 : decode cX11_nearest 171 = .ok (.aaload, 1) := by decide +kernel
theorem dX11_nearest_172 : decode cX11_nearest 172 = .ok (.iload_n 3, 1) := by decide +kernel
theorem dX11_nearest_173 : decode cX11_nearest 173 = .ok (.invokevirtual 323, 3) := by decide +kernel
theorem dX11_nearest_176 : decode cX11_nearest 176 = .ok (.ireturn, 1) := by decide +kernel
theorem dX11_never_0 : decode cX11_never 0 = .ok (.iload_n 1, 1) := by decide +kernel
theorem dX11_never_1 : decode cX11_never 1 = .ok (.invokestatic 272, 3) := by decide +kernel
theorem dX11_never_4 : decode cX11_never 4 = .ok (.ifCond .eq 10, 3) := by decide +kernel
theorem dX11_never_7 : decode cX11_never 7 = .ok (.iload_n 2, 1) := by decide +kernel
theorem dX11_never_8 : decode cX11_never 8 = .ok (.invokestatic 107, 3) := by decide +kernel
theorem dX11_never_11 : decode cX11_never 11 = .ok (.ifCond .ne 5, 3) := by decide +kernel
theorem dX11_never_14 : decode cX11_never 14 = .ok (.iconst (-1), 1) := by decide +kernel
theorem dX11_never_15 : decode cX11_never 15 = .ok (.ireturn, 1) := by decide +kernel
theorem dX11_never_16 : decode cX11_never 16 = .ok (.aload_n 0, 1) := by decide +kernel
theorem dX11_never_17 : decode cX11_never 17 = .ok (.getfield 68, 3) := by decide +kernel
theorem dX11_never_20 : decode cX11_never 20 = .ok (.iload_n 1, 1) := by decide +kernel
theorem dX11_never_21 : decode cX11_never 21 = .ok (.aaload, 1) := by decide +kernel
theorem dX11_never_22 : decode cX11_never 22 = .ok (.getfield 284, 3) := by decide +kernel
theorem dX11_never_25 : decode cX11_never 25 = .ok (.ifCond .ne 12, 3) := by decide +kernel
theorem dX11_never_28 : decode cX11_never 28 = .ok (.aload_n 0, 1) := by decide +kernel
theorem dX11_never_29 : decode cX11_never 29 = .ok (.getfield 12, 3) := by decide +kernel
theorem dX11_never_32 : decode cX11_never 32 = .ok (.iconst 1, 1) := by decide +kernel
theorem dX11_never_33 : decode cX11_never 33 = .ok (.invokevirtual 111, 3) := by decide +kernel
theorem dX11_never_36 : decode cX11_never 36 = .ok (.ireturn, 1) := by decide +kernel
theorem dX11_never_37 : decode cX11_never 37 = .ok (.aload_n 0, 1) := by decide +kernel
theorem dX11_never_38 : decode cX11_never 38 = .ok (.getfield 83, 3) := by decide +kernel
theorem dX11_never_41 : decode cX11_never 41 = .ok (.getfield 302, 3) := by decide +kernel
theorem dX11_never_44 : decode cX11_never 44 = .ok (.ifCond .eq 6, 3) := by decide +kernel
theorem dX11_never_47 : decode cX11_never 47 = .ok (.bipush (-6), 2) := by decide +kernel
theorem dX11_never_49 : decode cX11_never 49 = .ok (.ireturn, 1) := by decide +kernel
theorem dX11_never_50 : decode cX11_never 50 = .ok (.aload_n 0, 1) := by decide +kernel
theorem dX11_never_51 : decode cX11_never 51 = .ok (.getfield 83, 3) := by decide +kernel
theorem dX11_never_54 : decode cX11_never 54 = .ok (.aload_n 0, 1) := by decide +kernel
theorem dX11_never_55 : decode cX11_never 55 = .ok (.getfield 55, 3) := by decide +kernel
theorem dX11_never_58 : decode cX11_never 58 = .ok (.aload_n 0, 1) := by decide +kernel
theorem dX11_never_59 : decode cX11_never 59 = .ok (.getfield 104, 3) := by decide +kernel
theorem dX11_never_62 : decode cX11_never 62 = .ok (.invokevirtual 326, 3) := by decide +kernel
theorem dX11_never_65 : decode cX11_never 65 = .ok (.aload_n 0, 1) := by decide +kernel
theorem dX11_never_66 : decode cX11_never 66 = .ok (.getfield 48, 3) := by decide +kernel
theorem dX11_never_69 : decode cX11_never 69 = .ok (.aload_n 0, 1) := by decide +kernel
theorem dX11_never_70 : decode cX11_never 70 = .ok (.getfield 104, 3) := by decide +kernel
theorem dX11_never_73 : decode cX11_never 73 = .ok (.getfield 288, 3) := by decide +kernel
theorem dX11_never_76 : decode cX11_never 76 = .ok (.aload_n 0, 1) := by decide +kernel
theorem dX11_never_77 : decode cX11_never 77 = .ok (.getfield 104, 3) := by decide +kernel
theorem dX11_never_80 : decode cX11_never 80 = .ok (.getfield 292, 3) := by decide +kernel
theorem dX11_never_83 : decode cX11_never 83 = .ok (.aload_n 0, 1) := by decide +kernel
theorem dX11_never_84 : decode cX11_never 84 = .ok (.getfield 97, 3) := by decide +kernel
theorem dX11_never_87 : decode cX11_never 87 = .ok (.invokevirtual 330, 3) := by decide +kernel
theorem dX11_never_90 : decode cX11_never 90 = .ok (.aload_n 0, 1) := by decide +kernel
theorem dX11_never_91 : decode cX11_never 91 = .ok (.getfield 101, 3) := by decide +kernel
theorem dX11_never_94 : decode cX11_never 94 = .ok (.aload_n 0, 1) := by decide +kernel
theorem dX11_never_95 : decode cX11_never 95 = .ok (.getfield 68, 3) := by decide +kernel
theorem dX11_never_98 : decode cX11_never 98 = .ok (.iload_n 1, 1) := by decide +kernel
theorem dX11_never_99 : decode cX11_never 99 = .ok (.aaload, 1) := by decide +kernel
theorem dX11_never_100 : decode cX11_never 100 = .ok (.getfield 275, 3) := by decide +kernel
theorem dX11_never_103 : decode cX11_never 103 = .ok (.invokevirtual 334, 3) := by decide +kernel
theorem dX11_never_106 : decode cX11_never 106 = .ok (.aload_n 0, 1) := by decide +kernel
theorem dX11_never_107 : decode cX11_never 107 = .ok (.getfield 101, 3) := by decide +kernel
theorem dX11_never_110 : decode cX11_never 110 = .ok (.aload_n 0, 1) := by decide +kernel
theorem dX11_never_111 : decode cX11_never 111 = .ok (.getfield 97, 3) := by decide +kernel
theorem dX11_never_114 : decode cX11_never 114 = .ok (.invokevirtual 336, 3) := by decide +kernel
theorem dX11_never_117 : decode cX11_never 117 = .ok (.aload_n 0, 1) := by decide +kernel
theorem dX11_never_118 : decode cX11_never 118 = .ok (.getfield 18, 3) := by decide +kernel
theorem dX11_never_121 : decode cX11_never 121 = .ok (.iload_n 2, 1) := by decide +kernel
theorem dX11_never_122 : decode cX11_never 122 = .ok (.aaload, 1) := by decide +kernel
theorem dX11_never_123 : decode cX11_never 123 = .ok (.aload_n 0, 1) := by decide +kernel
theorem dX11_never_124 : decode cX11_never 124 = .ok (.getfield 101, 3) := by decide +kernel
theorem dX11_never_127 : decode cX11_never 127 = .ok (.invokevirtual 265, 3) := by decide +kernel
theorem dX11_never_130 : decode cX11_never 130 = .ok (.aload_n 0, 1) := by decide +kernel
theorem dX11_never_131 : decode cX11_never 131 = .ok (.getfield 101, 3) := by decide +kernel
theorem dX11_never_134 : decode cX11_never 134 = .ok (.invokevirtual 247, 3) := by decide +kernel
theorem dX11_never_137 : decode cX11_never 137 = .ok (.ireturn, 1) := by decide +kernel
theorem dX11_sets_0 : decode cX11_sets 0 = .ok (.iload_n 1, 1) := by decide +kernel
theorem dX11_sets_1 : decode cX11_sets 1 = .ok (.invokestatic 107, 3) := by decide +kernel
theorem dX11_sets_4 : decode cX11_sets 4 = .ok (.ifCond .ne 5, 3) := by decide +kernel
theorem dX11_sets_7 : decode cX11_sets 7 = .ok (.iconst (-1), 1) := by decide +kernel
theorem dX11_sets_8 : decode cX11_sets 8 = .ok (.ireturn, 1) := by decide +kernel
theorem dX11_sets_9 : decode cX11_sets 9 = .ok (.aload_n 0, 1) := by decide +kernel
theorem dX11_sets_10 : decode cX11_sets 10 = .ok (.getfield 18, 3) := by decide +kernel
theorem dX11_sets_13 : decode cX11_sets 13 = .ok (.iload_n 1, 1) := by decide +kernel
theorem dX11_sets_14 : decode cX11_sets 14 = .ok (.aaload, 1) := by decide +kernel
theorem dX11_sets_15 : decode cX11_sets 15 = .ok (.aload_n 0, 1) := by decide +kernel
theorem dX11_sets_16 : decode cX11_sets 16 = .ok (.getfield 18, 3) := by decide +kernel
theorem dX11_sets_19 : decode cX11_sets 19 = .ok (.iload_n 1, 1) := by decide +kernel
theorem dX11_sets_20 : decode cX11_sets 20 = .ok (.aaload, 1) := by decide +kernel
theorem dX11_sets_21 : decode cX11_sets 21 = .ok (.invokestatic 233, 3) := by decide +kernel
theorem dX11_sets_24 : decode cX11_sets 24 = .ok (.istore_n 2, 1) := by decide +kernel
theorem dX11_sets_25 : decode cX11_sets 25 = .ok (.iload_n 2, 1) := by decide +kernel
theorem dX11_sets_26 : decode cX11_sets 26 = .ok (.ifCond .eq 12, 3) := by decide +kernel
theorem dX11_sets_29 : decode cX11_sets 29 = .ok (.aload_n 0, 1) := by decide +kernel
theorem dX11_sets_30 : decode cX11_sets 30 = .ok (.getfield 12, 3) := by decide +kernel
theorem dX11_sets_33 : decode cX11_sets 33 = .ok (.iload_n 2, 1) := by decide +kernel
theorem dX11_sets_34 : decode cX11_sets 34 = .ok (.invokevirtual 111, 3) := by decide +kernel
theorem dX11_sets_37 : decode cX11_sets 37 = .ok (.ireturn, 1) := by decide +kernel
theorem dX11_sets_38 : decode cX11_sets 38 = .ok (.aload_n 0, 1) := by decide +kernel
theorem dX11_sets_39 : decode cX11_sets 39 = .ok (.getfield 83, 3) := by decide +kernel
theorem dX11_sets_42 : decode cX11_sets 42 = .ok (.getfield 302, 3) := by decide +kernel
theorem dX11_sets_45 : decode cX11_sets 45 = .ok (.ifCond .eq 6, 3) := by decide +kernel
theorem dX11_sets_48 : decode cX11_sets 48 = .ok (.bipush (-6), 2) := by decide +kernel
theorem dX11_sets_50 : decode cX11_sets 50 = .ok (.ireturn, 1) := by decide +kernel
theorem dX11_sets_51 : decode cX11_sets 51 = .ok (.aload_n 0, 1) := by decide +kernel
theorem dX11_sets_52 : decode cX11_sets 52 = .ok (.getfield 18, 3) := by decide +kernel
theorem dX11_sets_55 : decode cX11_sets 55 = .ok (.iload_n 1, 1) := by decide +kernel
theorem dX11_sets_56 : decode cX11_sets 56 = .ok (.aaload, 1) := by decide +kernel
theorem dX11_sets_57 : decode cX11_sets 57 = .ok (.aload_n 0, 1) := by decide +kernel
theorem dX11_sets_58 : decode cX11_sets 58 = .ok (.getfield 101, 3) := by decide +kernel
theorem dX11_sets_61 : decode cX11_sets 61 = .ok (.invokevirtual 240, 3) := by decide +kernel
theorem dX11_sets_64 : decode cX11_sets 64 = .ok (.aload_n 0, 1) := by decide +kernel
theorem dX11_sets_65 : decode cX11_sets 65 = .ok (.getfield 83, 3) := by decide +kernel
theorem dX11_sets_68 : decode cX11_sets 68 = .ok (.aload_n 0, 1) := by decide +kernel
theorem dX11_sets_69 : decode cX11_sets 69 = .ok (.getfield 38, 3) := by decide +kernel
theorem dX11_sets_72 : decode cX11_sets 72 = .ok (.aload_n 0, 1) := by decide +kernel
theorem dX11_sets_73 : decode cX11_sets 73 = .ok (.getfield 48, 3) := by decide +kernel
theorem dX11_sets_76 : decode cX11_sets 76 = .ok (.iconst (-1), 1) := by decide +kernel
theorem dX11_sets_77 : decode cX11_sets 77 = .ok (.invokevirtual 311, 3) := by decide +kernel
theorem dX11_sets_80 : decode cX11_sets 80 = .ok (.aload_n 0, 1) := by decide +kernel
theorem dX11_sets_81 : decode cX11_sets 81 = .ok (.getfield 12, 3) := by decide +kernel
theorem dX11_sets_84 : decode cX11_sets 84 = .ok (.aload_n 0, 1) := by decide +kernel
theorem dX11_sets_85 : decode cX11_sets 85 = .ok (.getfield 83, 3) := by decide +kernel
theorem dX11_sets_88 : decode cX11_sets 88 = .ok (.aload_n 0, 1) := by decide +kernel
theorem dX11_sets_89 : decode cX11_sets 89 = .ok (.getfield 38, 3) := by decide +kernel
theorem dX11_sets_92 : decode cX11_sets 92 = .ok (.aload_n 0, 1) := by decide +kernel
theorem dX11_sets_93 : decode cX11_sets 93 = .ok (.getfield 101, 3) := by decide +kernel
theorem dX11_sets_96 : decode cX11_sets 96 = .ok (.aload_n 0, 1) := by decide +kernel
theorem dX11_sets_97 : decode cX11_sets 97 = .ok (.getfield 55, 3) := by decide +kernel
theorem dX11_sets_100 : decode cX11_sets 100 = .ok (.invokevirtual 339, 3) := by decide +kernel
theorem dX11_sets_103 : decode cX11_sets 103 = .ok (.invokevirtual 132, 3) := by decide +kernel
theorem dX11_sets_106 : decode cX11_sets 106 = .ok (.pop, 1) := by decide +kernel
theorem dX11_sets_107 : decode cX11_sets 107 = .ok (.aload_n 0, 1) := by decide +kernel
theorem dX11_sets_108 : decode cX11_sets 108 = .ok (.getfield 83, 3) := by decide +kernel
theorem dX11_sets_111 : decode cX11_sets 111 = .ok (.aload_n 0, 1) := by decide +kernel
theorem dX11_sets_112 : decode cX11_sets 112 = .ok (.getfield 101, 3) := by decide +kernel
theorem dX11_sets_115 : decode cX11_sets 115 = .ok (.aload_n 0, 1) := by decide +kernel
theorem dX11_sets_116 : decode cX11_sets 116 = .ok (.getfield 55, 3) := by decide +kernel
theorem dX11_sets_119 : decode cX11_sets 119 = .ok (.invokevirtual 343, 3) := by decide +kernel
theorem dX11_sets_122 : decode cX11_sets 122 = .ok (.ireturn, 1) := by decide +kernel
theorem dX11_way_0 : decode cX11_way 0 = .ok (.aload_n 0, 1) := by decide +kernel
theorem dX11_way_1 : decode cX11_way 1 = .ok (.iload_n 1, 1) := by decide +kernel
theorem dX11_way_2 : decode cX11_way 2 = .ok (.invokevirtual 227, 3) := by decide +kernel
theorem dX11_way_5 : decode cX11_way 5 = .ok (.ifCond .eq 11, 3) := by decide +kernel
theorem dX11_way_8 : decode cX11_way 8 = .ok (.aload_n 0, 1) := by decide +kernel
theorem dX11_way_9 : decode cX11_way 9 = .ok (.iload_n 2, 1) := by decide +kernel
theorem dX11_way_10 : decode cX11_way 10 = .ok (.invokevirtual 227, 3) := by decide +kernel
theorem dX11_way_13 : decode cX11_way 13 = .ok (.ifCond .ne 5, 3) := by decide +kernel
theorem dX11_way_16 : decode cX11_way 16 = .ok (.iconst (-1), 1) := by decide +kernel
theorem dX11_way_17 : decode cX11_way 17 = .ok (.ireturn, 1) := by decide +kernel
theorem dX11_way_18 : decode cX11_way 18 = .ok (.aload_n 0, 1) := by decide +kernel
theorem dX11_way_19 : decode cX11_way 19 = .ok (.getfield 61, 3) := by decide +kernel
theorem dX11_way_22 : decode cX11_way 22 = .ok (.iload_n 1, 1) := by decide +kernel
theorem dX11_way_23 : decode cX11_way 23 = .ok (.aaload, 1) := by decide +kernel
theorem dX11_way_24 : decode cX11_way 24 = .ok (.invokevirtual 230, 3) := by decide +kernel
theorem dX11_way_27 : decode cX11_way 27 = .ok (.ifCond .eq 15, 3) := by decide +kernel
theorem dX11_way_30 : decode cX11_way 30 = .ok (.aload_n 0, 1) := by decide +kernel
theorem dX11_way_31 : decode cX11_way 31 = .ok (.getfield 61, 3) := by decide +kernel
theorem dX11_way_34 : decode cX11_way 34 = .ok (.iload_n 2, 1) := by decide +kernel
theorem dX11_way_35 : decode cX11_way 35 = .ok (.aaload, 1) := by decide +kernel
theorem dX11_way_36 : decode cX11_way 36 = .ok (.invokevirtual 230, 3) := by decide +kernel
theorem dX11_way_39 : decode cX11_way 39 = .ok (.ifCond .ne 12, 3) := by decide +kernel
theorem dX11_way_42 : decode cX11_way 42 = .ok (.aload_n 0, 1) := by decide +kernel
theorem dX11_way_43 : decode cX11_way 43 = .ok (.getfield 12, 3) := by decide +kernel
theorem dX11_way_46 : decode cX11_way 46 = .ok (.iconst 3, 1) := by decide +kernel
theorem dX11_way_47 : decode cX11_way 47 = .ok (.invokevirtual 111, 3) := by decide +kernel
theorem dX11_way_50 : decode cX11_way 50 = .ok (.ireturn, 1) := by decide +kernel
theorem dX11_way_51 : decode cX11_way 51 = .ok (.aload_n 0, 1) := by decide +kernel
theorem dX11_way_52 : decode cX11_way 52 = .ok (.getfield 83, 3) := by decide +kernel
theorem dX11_way_55 : decode cX11_way 55 = .ok (.getfield 302, 3) := by decide +kernel
theorem dX11_way_58 : decode cX11_way 58 = .ok (.ifCond .eq 6, 3) := by decide +kernel
theorem dX11_way_61 : decode cX11_way 61 = .ok (.bipush (-6), 2) := by decide +kernel
theorem dX11_way_63 : decode cX11_way 63 = .ok (.ireturn, 1) := by decide +kernel
theorem dX11_way_64 : decode cX11_way 64 = .ok (.aload_n 0, 1) := by decide +kernel
theorem dX11_way_65 : decode cX11_way 65 = .ok (.getfield 90, 3) := by decide +kernel
theorem dX11_way_68 : decode cX11_way 68 = .ok (.aload_n 0, 1) := by decide +kernel
theorem dX11_way_69 : decode cX11_way 69 = .ok (.getfield 83, 3) := by decide +kernel
theorem dX11_way_72 : decode cX11_way 72 = .ok (.aload_n 0, 1) := by decide +kernel
theorem dX11_way_73 : decode cX11_way 73 = .ok (.getfield 55, 3) := by decide +kernel
theorem dX11_way_76 : decode cX11_way 76 = .ok (.invokevirtual 347, 3) := by decide +kernel
theorem dX11_way_79 : decode cX11_way 79 = .ok (.aload_n 0, 1) := by decide +kernel
theorem dX11_way_80 : decode cX11_way 80 = .ok (.getfield 90, 3) := by decide +kernel
theorem dX11_way_83 : decode cX11_way 83 = .ok (.aload_n 0, 1) := by decide +kernel
theorem dX11_way_84 : decode cX11_way 84 = .ok (.getfield 83, 3) := by decide +kernel
theorem dX11_way_87 : decode cX11_way 87 = .ok (.aload_n 0, 1) := by decide +kernel
theorem dX11_way_88 : decode cX11_way 88 = .ok (.getfield 38, 3) := by decide +kernel
theorem dX11_way_91 : decode cX11_way 91 = .ok (.aload_n 0, 1) := by decide +kernel
theorem dX11_way_92 : decode cX11_way 92 = .ok (.iload_n 1, 1) := by decide +kernel
theorem dX11_way_93 : decode cX11_way 93 = .ok (.invokevirtual 351, 3) := by decide +kernel
theorem dX11_way_96 : decode cX11_way 96 = .ok (.aload_n 0, 1) := by decide +kernel
theorem dX11_way_97 : decode cX11_way 97 = .ok (.iload_n 2, 1) := by decide +kernel
theorem dX11_way_98 : decode cX11_way 98 = .ok (.invokevirtual 351, 3) := by decide +kernel
theorem dX11_way_101 : decode cX11_way 101 = .ok (.invokevirtual 354, 3) := by decide +kernel
theorem dX11_way_104 : decode cX11_way 104 = .ok (.ireturn, 1) := by decide +kernel
theorem dX11_unseen_0 : decode cX11_unseen 0 = .ok (.aload_n 0, 1) := by decide +kernel
theorem dX11_unseen_1 : decode cX11_unseen 1 = .ok (.iload_n 1, 1) := by decide +kernel
theorem dX11_unseen_2 : decode cX11_unseen 2 = .ok (.invokevirtual 227, 3) := by decide +kernel
theorem dX11_unseen_5 : decode cX11_unseen 5 = .ok (.ifCond .eq 30, 3) := by decide +kernel
theorem dX11_unseen_8 : decode cX11_unseen 8 = .ok (.aload_n 0, 1) := by decide +kernel
theorem dX11_unseen_9 : decode cX11_unseen 9 = .ok (.iload_n 2, 1) := by decide +kernel
theorem dX11_unseen_10 : decode cX11_unseen 10 = .ok (.invokevirtual 227, 3) := by decide +kernel
theorem dX11_unseen_13 : decode cX11_unseen 13 = .ok (.ifCond .eq 22, 3) := by decide +kernel
theorem dX11_unseen_16 : decode cX11_unseen 16 = .ok (.iload_n 3, 1) := by decide +kernel
theorem dX11_unseen_17 : decode cX11_unseen 17 = .ok (.invokestatic 272, 3) := by decide +kernel
theorem dX11_unseen_20 : decode cX11_unseen 20 = .ok (.ifCond .eq 15, 3) := by decide +kernel
theorem dX11_unseen_23 : decode cX11_unseen 23 = .ok (.iload 4, 2) := by decide +kernel
theorem dX11_unseen_25 : decode cX11_unseen 25 = .ok (.ifCond .lt 10, 3) := by decide +kernel
theorem dX11_unseen_28 : decode cX11_unseen 28 = .ok (.iload 4, 2) := by decide +kernel
theorem dX11_unseen_30 : decode cX11_unseen 30 = .ok (.bipush 120, 2) := by decide +kernel
theorem dX11_unseen_32 : decode cX11_unseen 32 = .ok (.if_icmp .le 5, 3) := by decide +kernel
theorem dX11_unseen_35 : decode cX11_unseen 35 = .ok (.iconst (-1), 1) := by decide +kernel
theorem dX11_unseen_36 : decode cX11_unseen 36 = .ok (.ireturn, 1) := by decide +kernel
theorem dX11_unseen_37 : decode cX11_unseen 37 = .ok (.aload_n 0, 1) := by decide +kernel
theorem dX11_unseen_38 : decode cX11_unseen 38 = .ok (.getfield 61, 3) := by decide +kernel
theorem dX11_unseen_41 : decode cX11_unseen 41 = .ok (.iload_n 1, 1) := by decide +kernel
theorem dX11_unseen_42 : decode cX11_unseen 42 = .ok (.aaload, 1) := by decide +kernel
theorem dX11_unseen_43 : decode cX11_unseen 43 = .ok (.invokevirtual 230, 3) := by decide +kernel
theorem dX11_unseen_46 : decode cX11_unseen 46 = .ok (.ifCond .eq 15, 3) := by decide +kernel
theorem dX11_unseen_49 : decode cX11_unseen 49 = .ok (.aload_n 0, 1) := by decide +kernel
theorem dX11_unseen_50 : decode cX11_unseen 50 = .ok (.getfield 61, 3) := by decide +kernel
theorem dX11_unseen_53 : decode cX11_unseen 53 = .ok (.iload_n 2, 1) := by decide +kernel
theorem dX11_unseen_54 : decode cX11_unseen 54 = .ok (.aaload, 1) := by decide +kernel
theorem dX11_unseen_55 : decode cX11_unseen 55 = .ok (.invokevirtual 230, 3) := by decide +kernel
theorem dX11_unseen_58 : decode cX11_unseen 58 = .ok (.ifCond .ne 12, 3) := by decide +kernel
theorem dX11_unseen_61 : decode cX11_unseen 61 = .ok (.aload_n 0, 1) := by decide +kernel
theorem dX11_unseen_62 : decode cX11_unseen 62 = .ok (.getfield 12, 3) := by decide +kernel
theorem dX11_unseen_65 : decode cX11_unseen 65 = .ok (.iconst 3, 1) := by decide +kernel
theorem dX11_unseen_66 : decode cX11_unseen 66 = .ok (.invokevirtual 111, 3) := by decide +kernel
theorem dX11_unseen_69 : decode cX11_unseen 69 = .ok (.ireturn, 1) := by decide +kernel
theorem dX11_unseen_70 : decode cX11_unseen 70 = .ok (.aload_n 0, 1) := by decide +kernel
theorem dX11_unseen_71 : decode cX11_unseen 71 = .ok (.getfield 68, 3) := by decide +kernel
theorem dX11_unseen_74 : decode cX11_unseen 74 = .ok (.iload_n 3, 1) := by decide +kernel
theorem dX11_unseen_75 : decode cX11_unseen 75 = .ok (.aaload, 1) := by decide +kernel
theorem dX11_unseen_76 : decode cX11_unseen 76 = .ok (.getfield 284, 3) := by decide +kernel
theorem dX11_unseen_79 : decode cX11_unseen 79 = .ok (.ifCond .ne 12, 3) := by decide +kernel
theorem dX11_unseen_82 : decode cX11_unseen 82 = .ok (.aload_n 0, 1) := by decide +kernel
theorem dX11_unseen_83 : decode cX11_unseen 83 = .ok (.getfield 12, 3) := by decide +kernel
theorem dX11_unseen_86 : decode cX11_unseen 86 = .ok (.iconst 1, 1) := by decide +kernel
theorem dX11_unseen_87 : decode cX11_unseen 87 = .ok (.invokevirtual 111, 3) := by decide +kernel
theorem dX11_unseen_90 : decode cX11_unseen 90 = .ok (.ireturn, 1) := by decide +kernel
theorem dX11_unseen_91 : decode cX11_unseen 91 = .ok (.aload_n 0, 1) := by decide +kernel
theorem dX11_unseen_92 : decode cX11_unseen 92 = .ok (.getfield 83, 3) := by decide +kernel
theorem dX11_unseen_95 : decode cX11_unseen 95 = .ok (.getfield 302, 3) := by decide +kernel
theorem dX11_unseen_98 : decode cX11_unseen 98 = .ok (.ifCond .eq 6, 3) := by decide +kernel
theorem dX11_unseen_101 : decode cX11_unseen 101 = .ok (.bipush (-6), 2) := by decide +kernel
theorem dX11_unseen_103 : decode cX11_unseen 103 = .ok (.ireturn, 1) := by decide +kernel
theorem dX11_unseen_104 : decode cX11_unseen 104 = .ok (.aload_n 0, 1) := by decide +kernel
theorem dX11_unseen_105 : decode cX11_unseen 105 = .ok (.getfield 83, 3) := by decide +kernel
theorem dX11_unseen_108 : decode cX11_unseen 108 = .ok (.aload_n 0, 1) := by decide +kernel
theorem dX11_unseen_109 : decode cX11_unseen 109 = .ok (.getfield 38, 3) := by decide +kernel
theorem dX11_unseen_112 : decode cX11_unseen 112 = .ok (.aload_n 0, 1) := by decide +kernel
theorem dX11_unseen_113 : decode cX11_unseen 113 = .ok (.getfield 48, 3) := by decide +kernel
theorem dX11_unseen_116 : decode cX11_unseen 116 = .ok (.iconst (-1), 1) := by decide +kernel
theorem dX11_unseen_117 : decode cX11_unseen 117 = .ok (.invokevirtual 311, 3) := by decide +kernel
theorem dX11_unseen_120 : decode cX11_unseen 120 = .ok (.aload_n 0, 1) := by decide +kernel
theorem dX11_unseen_121 : decode cX11_unseen 121 = .ok (.getfield 90, 3) := by decide +kernel
theorem dX11_unseen_124 : decode cX11_unseen 124 = .ok (.aload_n 0, 1) := by decide +kernel
theorem dX11_unseen_125 : decode cX11_unseen 125 = .ok (.getfield 83, 3) := by decide +kernel
theorem dX11_unseen_128 : decode cX11_unseen 128 = .ok (.aload_n 0, 1) := by decide +kernel
theorem dX11_unseen_129 : decode cX11_unseen 129 = .ok (.getfield 55, 3) := by decide +kernel
theorem dX11_unseen_132 : decode cX11_unseen 132 = .ok (.invokevirtual 347, 3) := by decide +kernel
theorem dX11_unseen_135 : decode cX11_unseen 135 = .ok (.aload_n 0, 1) := by decide +kernel
theorem dX11_unseen_136 : decode cX11_unseen 136 = .ok (.getfield 90, 3) := by decide +kernel
theorem dX11_unseen_139 : decode cX11_unseen 139 = .ok (.aload_n 0, 1) := by decide +kernel
theorem dX11_unseen_140 : decode cX11_unseen 140 = .ok (.getfield 83, 3) := by decide +kernel
theorem dX11_unseen_143 : decode cX11_unseen 143 = .ok (.aload_n 0, 1) := by decide +kernel
theorem dX11_unseen_144 : decode cX11_unseen 144 = .ok (.getfield 68, 3) := by decide +kernel
theorem dX11_unseen_147 : decode cX11_unseen 147 = .ok (.iload_n 3, 1) := by decide +kernel
theorem dX11_unseen_148 : decode cX11_unseen 148 = .ok (.aaload, 1) := by decide +kernel
theorem dX11_unseen_149 : decode cX11_unseen 149 = .ok (.iload 4, 2) := by decide +kernel
theorem dX11_unseen_151 : decode cX11_unseen 151 = .ok (.aload_n 0, 1) := by decide +kernel
theorem dX11_unseen_152 : decode cX11_unseen 152 = .ok (.iload_n 1, 1) := by decide +kernel
theorem dX11_unseen_153 : decode cX11_unseen 153 = .ok (.invokevirtual 351, 3) := by decide +kernel
theorem dX11_unseen_156 : decode cX11_unseen 156 = .ok (.aload_n 0, 1) := by decide +kernel
theorem dX11_unseen_157 : decode cX11_unseen 157 = .ok (.iload_n 2, 1) := by decide +kernel
theorem dX11_unseen_158 : decode cX11_unseen 158 = .ok (.invokevirtual 351, 3) := by decide +kernel
theorem dX11_unseen_161 : decode cX11_unseen 161 = .ok (.invokevirtual 357, 3) := by decide +kernel
theorem dX11_unseen_164 : decode cX11_unseen 164 = .ok (.aload_n 0, 1) := by decide +kernel
theorem dX11_unseen_165 : decode cX11_unseen 165 = .ok (.getfield 90, 3) := by decide +kernel
theorem dX11_unseen_168 : decode cX11_unseen 168 = .ok (.aload_n 0, 1) := by decide +kernel
theorem dX11_unseen_169 : decode cX11_unseen 169 = .ok (.getfield 83, 3) := by decide +kernel
theorem dX11_unseen_172 : decode cX11_unseen 172 = .ok (.aload_n 0, 1) := by decide +kernel
theorem dX11_unseen_173 : decode cX11_unseen 173 = .ok (.getfield 38, 3) := by decide +kernel
theorem dX11_unseen_176 : decode cX11_unseen 176 = .ok (.aload_n 0, 1) := by decide +kernel
theorem dX11_unseen_177 : decode cX11_unseen 177 = .ok (.iload_n 1, 1) := by decide +kernel
theorem dX11_unseen_178 : decode cX11_unseen 178 = .ok (.invokevirtual 351, 3) := by decide +kernel
theorem dX11_unseen_181 : decode cX11_unseen 181 = .ok (.aload_n 0, 1) := by decide +kernel
theorem dX11_unseen_182 : decode cX11_unseen 182 = .ok (.iload_n 2, 1) := by decide +kernel
theorem dX11_unseen_183 : decode cX11_unseen 183 = .ok (.invokevirtual 351, 3) := by decide +kernel
theorem dX11_unseen_186 : decode cX11_unseen 186 = .ok (.invokevirtual 354, 3) := by decide +kernel
theorem dX11_unseen_189 : decode cX11_unseen 189 = .ok (.ireturn, 1) := by decide +kernel
theorem dX11_where_0 : decode cX11_where 0 = .ok (.aload_n 0, 1) := by decide +kernel
theorem dX11_where_1 : decode cX11_where 1 = .ok (.iload_n 1, 1) := by decide +kernel
theorem dX11_where_2 : decode cX11_where 2 = .ok (.invokevirtual 227, 3) := by decide +kernel
theorem dX11_where_5 : decode cX11_where 5 = .ok (.ifCond .eq 10, 3) := by decide +kernel
theorem dX11_where_8 : decode cX11_where 8 = .ok (.iload_n 2, 1) := by decide +kernel
theorem dX11_where_9 : decode cX11_where 9 = .ok (.invokestatic 272, 3) := by decide +kernel
theorem dX11_where_12 : decode cX11_where 12 = .ok (.ifCond .ne 5, 3) := by decide +kernel
theorem dX11_where_15 : decode cX11_where 15 = .ok (.iconst (-1), 1) := by decide +kernel
theorem dX11_where_16 : decode cX11_where 16 = .ok (.ireturn, 1) := by decide +kernel
theorem dX11_where_17 : decode cX11_where 17 = .ok (.aload_n 0, 1) := by decide +kernel
theorem dX11_where_18 : decode cX11_where 18 = .ok (.getfield 68, 3) := by decide +kernel
theorem dX11_where_21 : decode cX11_where 21 = .ok (.iload_n 2, 1) := by decide +kernel
theorem dX11_where_22 : decode cX11_where 22 = .ok (.aaload, 1) := by decide +kernel
theorem dX11_where_23 : decode cX11_where 23 = .ok (.getfield 284, 3) := by decide +kernel
theorem dX11_where_26 : decode cX11_where 26 = .ok (.ifCond .ne 12, 3) := by decide +kernel
theorem dX11_where_29 : decode cX11_where 29 = .ok (.aload_n 0, 1) := by decide +kernel
theorem dX11_where_30 : decode cX11_where 30 = .ok (.getfield 12, 3) := by decide +kernel
theorem dX11_where_33 : decode cX11_where 33 = .ok (.iconst 1, 1) := by decide +kernel
theorem dX11_where_34 : decode cX11_where 34 = .ok (.invokevirtual 111, 3) := by decide +kernel
theorem dX11_where_37 : decode cX11_where 37 = .ok (.ireturn, 1) := by decide +kernel
theorem dX11_where_38 : decode cX11_where 38 = .ok (.bipush (-9), 2) := by decide +kernel
theorem dX11_where_40 : decode cX11_where 40 = .ok (.istore_n 3, 1) := by decide +kernel
theorem dX11_where_41 : decode cX11_where 41 = .ok (.iconst 0, 1) := by decide +kernel
theorem dX11_where_42 : decode cX11_where 42 = .ok (.istore 4, 2) := by decide +kernel
theorem dX11_where_44 : decode cX11_where 44 = .ok (.iconst 0, 1) := by decide +kernel
theorem dX11_where_45 : decode cX11_where 45 = .ok (.istore 5, 2) := by decide +kernel
theorem dX11_where_47 : decode cX11_where 47 = .ok (.iload 5, 2) := by decide +kernel
theorem dX11_where_49 : decode cX11_where 49 = .ok (.bipush 98, 2) := by decide +kernel
theorem dX11_where_51 : decode cX11_where 51 = .ok (.if_icmp .ge 84, 3) := by decide +kernel
theorem dX11_where_54 : decode cX11_where 54 = .ok (.aload_n 0, 1) := by decide +kernel
theorem dX11_where_55 : decode cX11_where 55 = .ok (.getfield 52, 3) := by decide +kernel
theorem dX11_where_58 : decode cX11_where 58 = .ok (.iload 5, 2) := by decide +kernel
theorem dX11_where_60 : decode cX11_where 60 = .ok (.invokevirtual 361, 3) := by decide +kernel
theorem dX11_where_63 : decode cX11_where 63 = .ok (.aload_n 0, 1) := by decide +kernel
theorem dX11_where_64 : decode cX11_where 64 = .ok (.getfield 61, 3) := by decide +kernel
theorem dX11_where_67 : decode cX11_where 67 = .ok (.iload_n 1, 1) := by decide +kernel
theorem dX11_where_68 : decode cX11_where 68 = .ok (.aaload, 1) := by decide +kernel
theorem dX11_where_69 : decode cX11_where 69 = .ok (.aload_n 0, 1) := by decide +kernel
theorem dX11_where_70 : decode cX11_where 70 = .ok (.getfield 52, 3) := by decide +kernel
theorem dX11_where_73 : decode cX11_where 73 = .ok (.aload_n 0, 1) := by decide +kernel
theorem dX11_where_74 : decode cX11_where 74 = .ok (.getfield 97, 3) := by decide +kernel
theorem dX11_where_77 : decode cX11_where 77 = .ok (.invokevirtual 268, 3) := by decide +kernel
theorem dX11_where_80 : decode cX11_where 80 = .ok (.aload_n 0, 1) := by decide +kernel
theorem dX11_where_81 : decode cX11_where 81 = .ok (.getfield 68, 3) := by decide +kernel
theorem dX11_where_84 : decode cX11_where 84 = .ok (.iload_n 2, 1) := by decide +kernel
theorem dX11_where_85 : decode cX11_where 85 = .ok (.aaload, 1) := by decide +kernel
theorem dX11_where_86 : decode cX11_where 86 = .ok (.aload_n 0, 1) := by decide +kernel
theorem dX11_where_87 : decode cX11_where 87 = .ok (.getfield 97, 3) := by decide +kernel
theorem dX11_where_90 : decode cX11_where 90 = .ok (.getfield 288, 3) := by decide +kernel
theorem dX11_where_93 : decode cX11_where 93 = .ok (.aload_n 0, 1) := by decide +kernel
theorem dX11_where_94 : decode cX11_where 94 = .ok (.getfield 97, 3) := by decide +kernel
theorem dX11_where_97 : decode cX11_where 97 = .ok (.getfield 292, 3) := by decide +kernel
theorem dX11_where_100 : decode cX11_where 100 = .ok (.invokevirtual 299, 3) := by decide +kernel
theorem dX11_where_103 : decode cX11_where 103 = .ok (.istore 6, 2) := by decide +kernel
theorem dX11_where_105 : decode cX11_where 105 = .ok (.iload_n 3, 1) := by decide +kernel
theorem dX11_where_106 : decode cX11_where 106 = .ok (.bipush (-9), 2) := by decide +kernel
theorem dX11_where_108 : decode cX11_where 108 = .ok (.if_icmp .eq 9, 3) := by decide +kernel
theorem dX11_where_111 : decode cX11_where 111 = .ok (.iload 6, 2) := by decide +kernel
theorem dX11_where_113 : decode cX11_where 113 = .ok (.iload_n 3, 1) := by decide +kernel
theorem dX11_where_114 : decode cX11_where 114 = .ok (.if_icmp .ge 15, 3) := by decide +kernel
theorem dX11_where_117 : decode cX11_where 117 = .ok (.iload 6, 2) := by decide +kernel
theorem dX11_where_119 : decode cX11_where 119 = .ok (.istore_n 3, 1) := by decide +kernel
theorem dX11_where_120 : decode cX11_where 120 = .ok (.aload_n 0, 1) := by decide +kernel
theorem dX11_where_121 : decode cX11_where 121 = .ok (.getfield 52, 3) := by decide +kernel
theorem dX11_where_124 : decode cX11_where 124 = .ok (.invokevirtual 201, 3) := by decide +kernel
theorem dX11_where_127 : decode cX11_where 127 = .ok (.istore 4, 2) := by decide +kernel
theorem dX11_where_129 : decode cX11_where 129 = .ok (.iinc 5 1, 3) := by decide +kernel
theorem dX11_where_132 : decode cX11_where 132 = .ok (.goto (-85), 3) := by decide +kernel
theorem dX11_where_135 : decode cX11_where 135 = .ok (.aload_n 0, 1) := by decide +kernel
theorem dX11_where_136 : decode cX11_where 136 = .ok (.getfield 12, 3) := by decide +kernel
theorem dX11_where_139 : decode cX11_where 139 = .ok (.iload 4, 2) := by decide +kernel
theorem dX11_where_141 : decode cX11_where 141 = .ok (.invokevirtual 132, 3) := by decide +kernel
theorem dX11_where_144 : decode cX11_where 144 = .ok (.pop, 1) := by decide +kernel
theorem dX11_where_145 : decode cX11_where 145 = .ok (.iload_n 3, 1) := by decide +kernel
theorem dX11_where_146 : decode cX11_where 146 = .ok (.ireturn, 1) := by decide +kernel
theorem dX11_picture_0 : decode cX11_picture 0 = .ok (.iload_n 1, 1) := by decide +kernel
theorem dX11_picture_1 : decode cX11_picture 1 = .ok (.invokestatic 107, 3) := by decide +kernel
theorem dX11_picture_4 : decode cX11_picture 4 = .ok (.ifCond .ne 5, 3) := by decide +kernel
theorem dX11_picture_7 : decode cX11_picture 7 = .ok (.iconst (-1), 1) := by decide +kernel
theorem dX11_picture_8 : decode cX11_picture 8 = .ok (.ireturn, 1) := by decide +kernel
theorem dX11_picture_9 : decode cX11_picture 9 = .ok (.aload_n 0, 1) := by decide +kernel
theorem dX11_picture_10 : decode cX11_picture 10 = .ok (.getfield 18, 3) := by decide +kernel
theorem dX11_picture_13 : decode cX11_picture 13 = .ok (.iload_n 1, 1) := by decide +kernel
theorem dX11_picture_14 : decode cX11_picture 14 = .ok (.aaload, 1) := by decide +kernel
theorem dX11_picture_15 : decode cX11_picture 15 = .ok (.aload_n 0, 1) := by decide +kernel
theorem dX11_picture_16 : decode cX11_picture 16 = .ok (.getfield 18, 3) := by decide +kernel
theorem dX11_picture_19 : decode cX11_picture 19 = .ok (.iload_n 1, 1) := by decide +kernel
theorem dX11_picture_20 : decode cX11_picture 20 = .ok (.aaload, 1) := by decide +kernel
theorem dX11_picture_21 : decode cX11_picture 21 = .ok (.invokestatic 233, 3) := by decide +kernel
theorem dX11_picture_24 : decode cX11_picture 24 = .ok (.istore_n 2, 1) := by decide +kernel
theorem dX11_picture_25 : decode cX11_picture 25 = .ok (.iload_n 2, 1) := by decide +kernel
theorem dX11_picture_26 : decode cX11_picture 26 = .ok (.ifCond .eq 12, 3) := by decide +kernel
theorem dX11_picture_29 : decode cX11_picture 29 = .ok (.aload_n 0, 1) := by decide +kernel
theorem dX11_picture_30 : decode cX11_picture 30 = .ok (.getfield 12, 3) := by decide +kernel
theorem dX11_picture_33 : decode cX11_picture 33 = .ok (.iload_n 2, 1) := by decide +kernel
theorem dX11_picture_34 : decode cX11_picture 34 = .ok (.invokevirtual 111, 3) := by decide +kernel
theorem dX11_picture_37 : decode cX11_picture 37 = .ok (.ireturn, 1) := by decide +kernel
theorem dX11_picture_38 : decode cX11_picture 38 = .ok (.aload_n 0, 1) := by decide +kernel
theorem dX11_picture_39 : decode cX11_picture 39 = .ok (.getfield 83, 3) := by decide +kernel
theorem dX11_picture_42 : decode cX11_picture 42 = .ok (.getfield 302, 3) := by decide +kernel
theorem dX11_picture_45 : decode cX11_picture 45 = .ok (.ifCond .eq 6, 3) := by decide +kernel
theorem dX11_picture_48 : decode cX11_picture 48 = .ok (.bipush (-6), 2) := by decide +kernel
theorem dX11_picture_50 : decode cX11_picture 50 = .ok (.ireturn, 1) := by decide +kernel
theorem dX11_picture_51 : decode cX11_picture 51 = .ok (.aload_n 0, 1) := by decide +kernel
theorem dX11_picture_52 : decode cX11_picture 52 = .ok (.getfield 18, 3) := by decide +kernel
theorem dX11_picture_55 : decode cX11_picture 55 = .ok (.iload_n 1, 1) := by decide +kernel
theorem dX11_picture_56 : decode cX11_picture 56 = .ok (.aaload, 1) := by decide +kernel
theorem dX11_picture_57 : decode cX11_picture 57 = .ok (.aload_n 0, 1) := by decide +kernel
theorem dX11_picture_58 : decode cX11_picture 58 = .ok (.getfield 101, 3) := by decide +kernel
theorem dX11_picture_61 : decode cX11_picture 61 = .ok (.invokevirtual 240, 3) := by decide +kernel
theorem dX11_picture_64 : decode cX11_picture 64 = .ok (.aload_n 0, 1) := by decide +kernel
theorem dX11_picture_65 : decode cX11_picture 65 = .ok (.getfield 83, 3) := by decide +kernel
theorem dX11_picture_68 : decode cX11_picture 68 = .ok (.aload_n 0, 1) := by decide +kernel
theorem dX11_picture_69 : decode cX11_picture 69 = .ok (.getfield 55, 3) := by decide +kernel
theorem dX11_picture_72 : decode cX11_picture 72 = .ok (.aload_n 0, 1) := by decide +kernel
theorem dX11_picture_73 : decode cX11_picture 73 = .ok (.getfield 104, 3) := by decide +kernel
theorem dX11_picture_76 : decode cX11_picture 76 = .ok (.invokevirtual 326, 3) := by decide +kernel
theorem dX11_picture_79 : decode cX11_picture 79 = .ok (.iconst 0, 1) := by decide +kernel
theorem dX11_picture_80 : decode cX11_picture 80 = .ok (.istore_n 3, 1) := by decide +kernel
theorem dX11_picture_81 : decode cX11_picture 81 = .ok (.iload_n 3, 1) := by decide +kernel
theorem dX11_picture_82 : decode cX11_picture 82 = .ok (.bipush 98, 2) := by decide +kernel
theorem dX11_picture_84 : decode cX11_picture 84 = .ok (.if_icmp .ge 50, 3) := by decide +kernel
theorem dX11_picture_87 : decode cX11_picture 87 = .ok (.aload_n 0, 1) := by decide +kernel
theorem dX11_picture_88 : decode cX11_picture 88 = .ok (.getfield 52, 3) := by decide +kernel
theorem dX11_picture_91 : decode cX11_picture 91 = .ok (.iload_n 3, 1) := by decide +kernel
theorem dX11_picture_92 : decode cX11_picture 92 = .ok (.invokevirtual 361, 3) := by decide +kernel
theorem dX11_picture_95 : decode cX11_picture 95 = .ok (.aload_n 0, 1) := by decide +kernel
theorem dX11_picture_96 : decode cX11_picture 96 = .ok (.aload_n 0, 1) := by decide +kernel
theorem dX11_picture_97 : decode cX11_picture 97 = .ok (.getfield 52, 3) := by decide +kernel
theorem dX11_picture_100 : decode cX11_picture 100 = .ok (.invokevirtual 364, 3) := by decide +kernel
theorem dX11_picture_103 : decode cX11_picture 103 = .ok (.istore 4, 2) := by decide +kernel
theorem dX11_picture_105 : decode cX11_picture 105 = .ok (.iload 4, 2) := by decide +kernel
theorem dX11_picture_107 : decode cX11_picture 107 = .ok (.ifCond .le 21, 3) := by decide +kernel
theorem dX11_picture_110 : decode cX11_picture 110 = .ok (.aload_n 0, 1) := by decide +kernel
theorem dX11_picture_111 : decode cX11_picture 111 = .ok (.getfield 12, 3) := by decide +kernel
theorem dX11_picture_114 : decode cX11_picture 114 = .ok (.iload 4, 2) := by decide +kernel
theorem dX11_picture_116 : decode cX11_picture 116 = .ok (.invokevirtual 132, 3) := by decide +kernel
theorem dX11_picture_119 : decode cX11_picture 119 = .ok (.pop, 1) := by decide +kernel
theorem dX11_picture_120 : decode cX11_picture 120 = .ok (.aload_n 0, 1) := by decide +kernel
theorem dX11_picture_121 : decode cX11_picture 121 = .ok (.getfield 52, 3) := by decide +kernel
theorem dX11_picture_124 : decode cX11_picture 124 = .ok (.invokevirtual 201, 3) := by decide +kernel
theorem dX11_picture_127 : decode cX11_picture 127 = .ok (.ireturn, 1) := by decide +kernel
theorem dX11_picture_128 : decode cX11_picture 128 = .ok (.iinc 3 1, 3) := by decide +kernel
theorem dX11_picture_131 : decode cX11_picture 131 = .ok (.goto (-50), 3) := by decide +kernel
theorem dX11_picture_134 : decode cX11_picture 134 = .ok (.bipush (-9), 2) := by decide +kernel
theorem dX11_picture_136 : decode cX11_picture 136 = .ok (.ireturn, 1) := by decide +kernel
theorem dX11_order_0 : decode cX11_order 0 = .ok (.iload_n 1, 1) := by decide +kernel
theorem dX11_order_1 : decode cX11_order 1 = .ok (.iconst 1, 1) := by decide +kernel
theorem dX11_order_2 : decode cX11_order 2 = .ok (.if_icmp .lt 29, 3) := by decide +kernel
theorem dX11_order_5 : decode cX11_order 5 = .ok (.iload_n 1, 1) := by decide +kernel
theorem dX11_order_6 : decode cX11_order 6 = .ok (.iconst 1, 1) := by decide +kernel
theorem dX11_order_7 : decode cX11_order 7 = .ok (.aload_n 0, 1) := by decide +kernel
theorem dX11_order_8 : decode cX11_order 8 = .ok (.getfield 213, 3) := by decide +kernel
theorem dX11_order_11 : decode cX11_order 11 = .ok (.ishl, 1) := by decide +kernel
theorem dX11_order_12 : decode cX11_order 12 = .ok (.if_icmp .ge 19, 3) := by decide +kernel
theorem dX11_order_15 : decode cX11_order 15 = .ok (.iload_n 1, 1) := by decide +kernel
theorem dX11_order_16 : decode cX11_order 16 = .ok (.invokestatic 368, 3) := by decide +kernel
theorem dX11_order_19 : decode cX11_order 19 = .ok (.bipush 8, 2) := by decide +kernel
theorem dX11_order_21 : decode cX11_order 21 = .ok (.if_icmp .gt 10, 3) := by decide +kernel
theorem dX11_order_24 : decode cX11_order 24 = .ok (.iload_n 2, 1) := by decide +kernel
theorem dX11_order_25 : decode cX11_order 25 = .ok (.invokestatic 107, 3) := by decide +kernel
theorem dX11_order_28 : decode cX11_order 28 = .ok (.ifCond .ne 5, 3) := by decide +kernel
theorem dX11_order_31 : decode cX11_order 31 = .ok (.iconst (-1), 1) := by decide +kernel
theorem dX11_order_32 : decode cX11_order 32 = .ok (.ireturn, 1) := by decide +kernel
theorem dX11_order_33 : decode cX11_order 33 = .ok (.iconst 0, 1) := by decide +kernel
theorem dX11_order_34 : decode cX11_order 34 = .ok (.istore_n 3, 1) := by decide +kernel
theorem dX11_order_35 : decode cX11_order 35 = .ok (.iload_n 3, 1) := by decide +kernel
theorem dX11_order_36 : decode cX11_order 36 = .ok (.aload_n 0, 1) := by decide +kernel
theorem dX11_order_37 : decode cX11_order 37 = .ok (.getfield 213, 3) := by decide +kernel
theorem dX11_order_40 : decode cX11_order 40 = .ok (.if_icmp .ge 39, 3) := by decide +kernel
theorem dX11_order_43 : decode cX11_order 43 = .ok (.iload_n 1, 1) := by decide +kernel
theorem dX11_order_44 : decode cX11_order 44 = .ok (.iload_n 3, 1) := by decide +kernel
theorem dX11_order_45 : decode cX11_order 45 = .ok (.ishr, 1) := by decide +kernel
theorem dX11_order_46 : decode cX11_order 46 = .ok (.iconst 1, 1) := by decide +kernel
theorem dX11_order_47 : decode cX11_order 47 = .ok (.iand, 1) := by decide +kernel
theorem dX11_order_48 : decode cX11_order 48 = .ok (.iconst 1, 1) := by decide +kernel
theorem dX11_order_49 : decode cX11_order 49 = .ok (.if_icmp .ne 24, 3) := by decide +kernel
theorem dX11_order_52 : decode cX11_order 52 = .ok (.aload_n 0, 1) := by decide +kernel
theorem dX11_order_53 : decode cX11_order 53 = .ok (.getfield 61, 3) := by decide +kernel
theorem dX11_order_56 : decode cX11_order 56 = .ok (.iload_n 3, 1) := by decide +kernel
theorem dX11_order_57 : decode cX11_order 57 = .ok (.aaload, 1) := by decide +kernel
theorem dX11_order_58 : decode cX11_order 58 = .ok (.invokevirtual 230, 3) := by decide +kernel
theorem dX11_order_61 : decode cX11_order 61 = .ok (.ifCond .ne 12, 3) := by decide +kernel
theorem dX11_order_64 : decode cX11_order 64 = .ok (.aload_n 0, 1) := by decide +kernel
theorem dX11_order_65 : decode cX11_order 65 = .ok (.getfield 12, 3) := by decide +kernel
theorem dX11_order_68 : decode cX11_order 68 = .ok (.iconst 3, 1) := by decide +kernel
theorem dX11_order_69 : decode cX11_order 69 = .ok (.invokevirtual 111, 3) := by decide +kernel
theorem dX11_order_72 : decode cX11_order 72 = .ok (.ireturn, 1) := by decide +kernel
theorem dX11_order_73 : decode cX11_order 73 = .ok (.iinc 3 1, 3) := by decide +kernel
theorem dX11_order_76 : decode cX11_order 76 = .ok (.goto (-41), 3) := by decide +kernel
theorem dX11_order_79 : decode cX11_order 79 = .ok (.aload_n 0, 1) := by decide +kernel
theorem dX11_order_80 : decode cX11_order 80 = .ok (.getfield 83, 3) := by decide +kernel
theorem dX11_order_83 : decode cX11_order 83 = .ok (.getfield 302, 3) := by decide +kernel
theorem dX11_order_86 : decode cX11_order 86 = .ok (.ifCond .eq 6, 3) := by decide +kernel
theorem dX11_order_89 : decode cX11_order 89 = .ok (.bipush (-6), 2) := by decide +kernel
theorem dX11_order_91 : decode cX11_order 91 = .ok (.ireturn, 1) := by decide +kernel
theorem dX11_order_92 : decode cX11_order 92 = .ok (.aload_n 0, 1) := by decide +kernel
theorem dX11_order_93 : decode cX11_order 93 = .ok (.getfield 90, 3) := by decide +kernel
theorem dX11_order_96 : decode cX11_order 96 = .ok (.invokevirtual 373, 3) := by decide +kernel
theorem dX11_order_99 : decode cX11_order 99 = .ok (.iconst 0, 1) := by decide +kernel
theorem dX11_order_100 : decode cX11_order 100 = .ok (.istore_n 3, 1) := by decide +kernel
theorem dX11_order_101 : decode cX11_order 101 = .ok (.iload_n 3, 1) := by decide +kernel
theorem dX11_order_102 : decode cX11_order 102 = .ok (.aload_n 0, 1) := by decide +kernel
theorem dX11_order_103 : decode cX11_order 103 = .ok (.getfield 213, 3) := by decide +kernel
theorem dX11_order_106 : decode cX11_order 106 = .ok (.if_icmp .ge 31, 3) := by decide +kernel
theorem dX11_order_109 : decode cX11_order 109 = .ok (.iload_n 1, 1) := by decide +kernel
theorem dX11_order_110 : decode cX11_order 110 = .ok (.iload_n 3, 1) := by decide +kernel
theorem dX11_order_111 : decode cX11_order 111 = .ok (.ishr, 1) := by decide +kernel
theorem dX11_order_112 : decode cX11_order 112 = .ok (.iconst 1, 1) := by decide +kernel
theorem dX11_order_113 : decode cX11_order 113 = .ok (.iand, 1) := by decide +kernel
theorem dX11_order_114 : decode cX11_order 114 = .ok (.iconst 1, 1) := by decide +kernel
theorem dX11_order_115 : decode cX11_order 115 = .ok (.if_icmp .ne 16, 3) := by decide +kernel
theorem dX11_order_118 : decode cX11_order 118 = .ok (.aload_n 0, 1) := by decide +kernel
theorem dX11_order_119 : decode cX11_order 119 = .ok (.getfield 90, 3) := by decide +kernel
theorem dX11_order_122 : decode cX11_order 122 = .ok (.iload_n 3, 1) := by decide +kernel
theorem dX11_order_123 : decode cX11_order 123 = .ok (.aload_n 0, 1) := by decide +kernel
theorem dX11_order_124 : decode cX11_order 124 = .ok (.iload_n 3, 1) := by decide +kernel
theorem dX11_order_125 : decode cX11_order 125 = .ok (.invokevirtual 351, 3) := by decide +kernel
theorem dX11_order_128 : decode cX11_order 128 = .ok (.invokevirtual 376, 3) := by decide +kernel
theorem dX11_order_131 : decode cX11_order 131 = .ok (.iinc 3 1, 3) := by decide +kernel
theorem dX11_order_134 : decode cX11_order 134 = .ok (.goto (-33), 3) := by decide +kernel
theorem dX11_order_137 : decode cX11_order 137 = .ok (.aload_n 0, 1) := by decide +kernel
theorem dX11_order_138 : decode cX11_order 138 = .ok (.getfield 90, 3) := by decide +kernel
theorem dX11_order_141 : decode cX11_order 141 = .ok (.aload_n 0, 1) := by decide +kernel
theorem dX11_order_142 : decode cX11_order 142 = .ok (.getfield 83, 3) := by decide +kernel
theorem dX11_order_145 : decode cX11_order 145 = .ok (.aload_n 0, 1) := by decide +kernel
theorem dX11_order_146 : decode cX11_order 146 = .ok (.getfield 38, 3) := by decide +kernel
theorem dX11_order_149 : decode cX11_order 149 = .ok (.aload_n 0, 1) := by decide +kernel
theorem dX11_order_150 : decode cX11_order 150 = .ok (.getfield 55, 3) := by decide +kernel
theorem dX11_order_153 : decode cX11_order 153 = .ok (.invokevirtual 379, 3) := by decide +kernel
theorem dX11_order_156 : decode cX11_order 156 = .ok (.istore_n 3, 1) := by decide +kernel
theorem dX11_order_157 : decode cX11_order 157 = .ok (.iload_n 3, 1) := by decide +kernel
theorem dX11_order_158 : decode cX11_order 158 = .ok (.bipush (-9), 2) := by decide +kernel
theorem dX11_order_160 : decode cX11_order 160 = .ok (.if_icmp .ne 6, 3) := by decide +kernel
theorem dX11_order_163 : decode cX11_order 163 = .ok (.bipush (-9), 2) := by decide +kernel
theorem dX11_order_165 : decode cX11_order 165 = .ok (.ireturn, 1) := by decide +kernel
theorem dX11_order_166 : decode cX11_order 166 = .ok (.aload_n 0, 1) := by decide +kernel
theorem dX11_order_167 : decode cX11_order 167 = .ok (.getfield 18, 3) := by decide +kernel
theorem dX11_order_170 : decode cX11_order 170 = .ok (.iload_n 2, 1) := by decide +kernel
theorem dX11_order_171 : decode cX11_order 171 = .ok (.aaload, 1) := by decide +kernel
theorem dX11_order_172 : decode cX11_order 172 = .ok (.aload_n 0, 1) := by decide +kernel
theorem dX11_order_173 : decode cX11_order 173 = .ok (.getfield 90, 3) := by decide +kernel
theorem dX11_order_176 : decode cX11_order 176 = .ok (.getfield 383, 3) := by decide +kernel
theorem dX11_order_179 : decode cX11_order 179 = .ok (.iconst 0, 1) := by decide +kernel
theorem dX11_order_180 : decode cX11_order 180 = .ok (.invokevirtual 115, 3) := by decide +kernel
theorem dX11_order_183 : decode cX11_order 183 = .ok (.iconst 0, 1) := by decide +kernel
theorem dX11_order_184 : decode cX11_order 184 = .ok (.istore 4, 2) := by decide +kernel
theorem dX11_order_186 : decode cX11_order 186 = .ok (.iload 4, 2) := by decide +kernel
theorem dX11_order_188 : decode cX11_order 188 = .ok (.aload_n 0, 1) := by decide +kernel
theorem dX11_order_189 : decode cX11_order 189 = .ok (.getfield 90, 3) := by decide +kernel
theorem dX11_order_192 : decode cX11_order 192 = .ok (.getfield 383, 3) := by decide +kernel
theorem dX11_order_195 : decode cX11_order 195 = .ok (.if_icmp .ge 30, 3) := by decide +kernel
theorem dX11_order_198 : decode cX11_order 198 = .ok (.aload_n 0, 1) := by decide +kernel
theorem dX11_order_199 : decode cX11_order 199 = .ok (.getfield 18, 3) := by decide +kernel
theorem dX11_order_202 : decode cX11_order 202 = .ok (.iload_n 2, 1) := by decide +kernel
theorem dX11_order_203 : decode cX11_order 203 = .ok (.aaload, 1) := by decide +kernel
theorem dX11_order_204 : decode cX11_order 204 = .ok (.iload 4, 2) := by decide +kernel
theorem dX11_order_206 : decode cX11_order 206 = .ok (.aload_n 0, 1) := by decide +kernel
theorem dX11_order_207 : decode cX11_order 207 = .ok (.getfield 90, 3) := by decide +kernel
theorem dX11_order_210 : decode cX11_order 210 = .ok (.getfield 386, 3) := by decide +kernel
theorem dX11_order_213 : decode cX11_order 213 = .ok (.iload 4, 2) := by decide +kernel
theorem dX11_order_215 : decode cX11_order 215 = .ok (.iaload, 1) := by decide +kernel
theorem dX11_order_216 : decode cX11_order 216 = .ok (.invokevirtual 129, 3) := by decide +kernel
theorem dX11_order_219 : decode cX11_order 219 = .ok (.iinc 4 1, 3) := by decide +kernel
theorem dX11_order_222 : decode cX11_order 222 = .ok (.goto (-36), 3) := by decide +kernel
theorem dX11_order_225 : decode cX11_order 225 = .ok (.iload_n 3, 1) := by decide +kernel
theorem dX11_order_226 : decode cX11_order 226 = .ok (.ireturn, 1) := by decide +kernel
theorem dX11_two_0 : decode cX11_two 0 = .ok (.iload_n 1, 1) := by decide +kernel
theorem dX11_two_1 : decode cX11_two 1 = .ok (.invokestatic 272, 3) := by decide +kernel
theorem dX11_two_4 : decode cX11_two 4 = .ok (.ifCond .eq 10, 3) := by decide +kernel
theorem dX11_two_7 : decode cX11_two 7 = .ok (.iload_n 2, 1) := by decide +kernel
theorem dX11_two_8 : decode cX11_two 8 = .ok (.invokestatic 272, 3) := by decide +kernel
theorem dX11_two_11 : decode cX11_two 11 = .ok (.ifCond .ne 5, 3) := by decide +kernel
theorem dX11_two_14 : decode cX11_two 14 = .ok (.iconst (-1), 1) := by decide +kernel
theorem dX11_two_15 : decode cX11_two 15 = .ok (.ireturn, 1) := by decide +kernel
theorem dX11_two_16 : decode cX11_two 16 = .ok (.aload_n 0, 1) := by decide +kernel
theorem dX11_two_17 : decode cX11_two 17 = .ok (.getfield 38, 3) := by decide +kernel
theorem dX11_two_20 : decode cX11_two 20 = .ok (.getfield 389, 3) := by decide +kernel
theorem dX11_two_23 : decode cX11_two 23 = .ok (.iconst 2, 1) := by decide +kernel
theorem dX11_two_24 : decode cX11_two 24 = .ok (.if_icmp .eq 6, 3) := by decide +kernel
theorem dX11_two_27 : decode cX11_two 27 = .ok (.bipush (-4), 2) := by decide +kernel
theorem dX11_two_29 : decode cX11_two 29 = .ok (.ireturn, 1) := by decide +kernel
theorem dX11_two_30 : decode cX11_two 30 = .ok (.aload_n 0, 1) := by decide +kernel
theorem dX11_two_31 : decode cX11_two 31 = .ok (.getfield 68, 3) := by decide +kernel
theorem dX11_two_34 : decode cX11_two 34 = .ok (.iload_n 1, 1) := by decide +kernel
theorem dX11_two_35 : decode cX11_two 35 = .ok (.aaload, 1) := by decide +kernel
theorem dX11_two_36 : decode cX11_two 36 = .ok (.getfield 284, 3) := by decide +kernel
theorem dX11_two_39 : decode cX11_two 39 = .ok (.ifCond .eq 15, 3) := by decide +kernel
theorem dX11_two_42 : decode cX11_two 42 = .ok (.aload_n 0, 1) := by decide +kernel
theorem dX11_two_43 : decode cX11_two 43 = .ok (.getfield 68, 3) := by decide +kernel
theorem dX11_two_46 : decode cX11_two 46 = .ok (.iload_n 2, 1) := by decide +kernel
theorem dX11_two_47 : decode cX11_two 47 = .ok (.aaload, 1) := by decide +kernel
theorem dX11_two_48 : decode cX11_two 48 = .ok (.getfield 284, 3) := by decide +kernel
theorem dX11_two_51 : decode cX11_two 51 = .ok (.ifCond .ne 12, 3) := by decide +kernel
theorem dX11_two_54 : decode cX11_two 54 = .ok (.aload_n 0, 1) := by decide +kernel
theorem dX11_two_55 : decode cX11_two 55 = .ok (.getfield 12, 3) := by decide +kernel
theorem dX11_two_58 : decode cX11_two 58 = .ok (.iconst 1, 1) := by decide +kernel
theorem dX11_two_59 : decode cX11_two 59 = .ok (.invokevirtual 111, 3) := by decide +kernel
theorem dX11_two_62 : decode cX11_two 62 = .ok (.ireturn, 1) := by decide +kernel
theorem dX11_two_63 : decode cX11_two 63 = .ok (.aload_n 0, 1) := by decide +kernel
theorem dX11_two_64 : decode cX11_two 64 = .ok (.getfield 83, 3) := by decide +kernel
theorem dX11_two_67 : decode cX11_two 67 = .ok (.getfield 302, 3) := by decide +kernel
theorem dX11_two_70 : decode cX11_two 70 = .ok (.ifCond .eq 6, 3) := by decide +kernel
theorem dX11_two_73 : decode cX11_two 73 = .ok (.bipush (-6), 2) := by decide +kernel
theorem dX11_two_75 : decode cX11_two 75 = .ok (.ireturn, 1) := by decide +kernel
theorem dX11_two_76 : decode cX11_two 76 = .ok (.aload_n 0, 1) := by decide +kernel
theorem dX11_two_77 : decode cX11_two 77 = .ok (.getfield 83, 3) := by decide +kernel
theorem dX11_two_80 : decode cX11_two 80 = .ok (.aload_n 0, 1) := by decide +kernel
theorem dX11_two_81 : decode cX11_two 81 = .ok (.getfield 38, 3) := by decide +kernel
theorem dX11_two_84 : decode cX11_two 84 = .ok (.iconst 0, 1) := by decide +kernel
theorem dX11_two_85 : decode cX11_two 85 = .ok (.invokevirtual 392, 3) := by decide +kernel
theorem dX11_two_88 : decode cX11_two 88 = .ok (.aload_n 0, 1) := by decide +kernel
theorem dX11_two_89 : decode cX11_two 89 = .ok (.getfield 83, 3) := by decide +kernel
theorem dX11_two_92 : decode cX11_two 92 = .ok (.aload_n 0, 1) := by decide +kernel
theorem dX11_two_93 : decode cX11_two 93 = .ok (.getfield 38, 3) := by decide +kernel
theorem dX11_two_96 : decode cX11_two 96 = .ok (.aload_n 0, 1) := by decide +kernel
theorem dX11_two_97 : decode cX11_two 97 = .ok (.getfield 48, 3) := by decide +kernel
theorem dX11_two_100 : decode cX11_two 100 = .ok (.iconst 0, 1) := by decide +kernel
theorem dX11_two_101 : decode cX11_two 101 = .ok (.invokevirtual 311, 3) := by decide +kernel
theorem dX11_two_104 : decode cX11_two 104 = .ok (.aload_n 0, 1) := by decide +kernel
theorem dX11_two_105 : decode cX11_two 105 = .ok (.getfield 83, 3) := by decide +kernel
theorem dX11_two_108 : decode cX11_two 108 = .ok (.aload_n 0, 1) := by decide +kernel
theorem dX11_two_109 : decode cX11_two 109 = .ok (.getfield 38, 3) := by decide +kernel
theorem dX11_two_112 : decode cX11_two 112 = .ok (.aload_n 0, 1) := by decide +kernel
theorem dX11_two_113 : decode cX11_two 113 = .ok (.getfield 68, 3) := by decide +kernel
theorem dX11_two_116 : decode cX11_two 116 = .ok (.iload_n 1, 1) := by decide +kernel
theorem dX11_two_117 : decode cX11_two 117 = .ok (.aaload, 1) := by decide +kernel
theorem dX11_two_118 : decode cX11_two 118 = .ok (.aload_n 0, 1) := by decide +kernel
theorem dX11_two_119 : decode cX11_two 119 = .ok (.getfield 55, 3) := by decide +kernel
theorem dX11_two_122 : decode cX11_two 122 = .ok (.bipush (-9), 2) := by decide +kernel
theorem dX11_two_124 : decode cX11_two 124 = .ok (.invokevirtual 396, 3) := by decide +kernel
theorem dX11_two_127 : decode cX11_two 127 = .ok (.istore_n 3, 1) := by decide +kernel
theorem dX11_two_128 : decode cX11_two 128 = .ok (.aload_n 0, 1) := by decide +kernel
theorem dX11_two_129 : decode cX11_two 129 = .ok (.getfield 83, 3) := by decide +kernel
theorem dX11_two_132 : decode cX11_two 132 = .ok (.aload_n 0, 1) := by decide +kernel
theorem dX11_two_133 : decode cX11_two 133 = .ok (.getfield 38, 3) := by decide +kernel
theorem dX11_two_136 : decode cX11_two 136 = .ok (.aload_n 0, 1) := by decide +kernel
theorem dX11_two_137 : decode cX11_two 137 = .ok (.getfield 68, 3) := by decide +kernel
theorem dX11_two_140 : decode cX11_two 140 = .ok (.iload_n 2, 1) := by decide +kernel
theorem dX11_two_141 : decode cX11_two 141 = .ok (.aaload, 1) := by decide +kernel
theorem dX11_two_142 : decode cX11_two 142 = .ok (.aload_n 0, 1) := by decide +kernel
theorem dX11_two_143 : decode cX11_two 143 = .ok (.getfield 55, 3) := by decide +kernel
theorem dX11_two_146 : decode cX11_two 146 = .ok (.bipush (-9), 2) := by decide +kernel
theorem dX11_two_148 : decode cX11_two 148 = .ok (.invokevirtual 396, 3) := by decide +kernel
theorem dX11_two_151 : decode cX11_two 151 = .ok (.istore 4, 2) := by decide +kernel
theorem dX11_two_153 : decode cX11_two 153 = .ok (.aload_n 0, 1) := by decide +kernel
theorem dX11_two_154 : decode cX11_two 154 = .ok (.getfield 83, 3) := by decide +kernel
theorem dX11_two_157 : decode cX11_two 157 = .ok (.aload_n 0, 1) := by decide +kernel
theorem dX11_two_158 : decode cX11_two 158 = .ok (.getfield 38, 3) := by decide +kernel
theorem dX11_two_161 : decode cX11_two 161 = .ok (.iconst 1, 1) := by decide +kernel
theorem dX11_two_162 : decode cX11_two 162 = .ok (.invokevirtual 392, 3) := by decide +kernel
theorem dX11_two_165 : decode cX11_two 165 = .ok (.aload_n 0, 1) := by decide +kernel
theorem dX11_two_166 : decode cX11_two 166 = .ok (.getfield 83, 3) := by decide +kernel
theorem dX11_two_169 : decode cX11_two 169 = .ok (.aload_n 0, 1) := by decide +kernel
theorem dX11_two_170 : decode cX11_two 170 = .ok (.getfield 38, 3) := by decide +kernel
theorem dX11_two_173 : decode cX11_two 173 = .ok (.aload_n 0, 1) := by decide +kernel
theorem dX11_two_174 : decode cX11_two 174 = .ok (.getfield 48, 3) := by decide +kernel
theorem dX11_two_177 : decode cX11_two 177 = .ok (.iconst 1, 1) := by decide +kernel
theorem dX11_two_178 : decode cX11_two 178 = .ok (.invokevirtual 311, 3) := by decide +kernel
theorem dX11_two_181 : decode cX11_two 181 = .ok (.aload_n 0, 1) := by decide +kernel
theorem dX11_two_182 : decode cX11_two 182 = .ok (.getfield 83, 3) := by decide +kernel
theorem dX11_two_185 : decode cX11_two 185 = .ok (.aload_n 0, 1) := by decide +kernel
theorem dX11_two_186 : decode cX11_two 186 = .ok (.getfield 38, 3) := by decide +kernel
theorem dX11_two_189 : decode cX11_two 189 = .ok (.aload_n 0, 1) := by decide +kernel
theorem dX11_two_190 : decode cX11_two 190 = .ok (.getfield 68, 3) := by decide +kernel
theorem dX11_two_193 : decode cX11_two 193 = .ok (.iload_n 2, 1) := by decide +kernel
theorem dX11_two_194 : decode cX11_two 194 = .ok (.aaload, 1) := by decide +kernel
theorem dX11_two_195 : decode cX11_two 195 = .ok (.aload_n 0, 1) := by decide +kernel
theorem dX11_two_196 : decode cX11_two 196 = .ok (.getfield 55, 3) := by decide +kernel
theorem dX11_two_199 : decode cX11_two 199 = .ok (.bipush (-9), 2) := by decide +kernel
theorem dX11_two_201 : decode cX11_two 201 = .ok (.invokevirtual 396, 3) := by decide +kernel
theorem dX11_two_204 : decode cX11_two 204 = .ok (.istore 5, 2) := by decide +kernel
theorem dX11_two_206 : decode cX11_two 206 = .ok (.aload_n 0, 1) := by decide +kernel
theorem dX11_two_207 : decode cX11_two 207 = .ok (.getfield 83, 3) := by decide +kernel
theorem dX11_two_210 : decode cX11_two 210 = .ok (.aload_n 0, 1) := by decide +kernel
theorem dX11_two_211 : decode cX11_two 211 = .ok (.getfield 38, 3) := by decide +kernel
theorem dX11_two_214 : decode cX11_two 214 = .ok (.aload_n 0, 1) := by decide +kernel
theorem dX11_two_215 : decode cX11_two 215 = .ok (.getfield 68, 3) := by decide +kernel
theorem dX11_two_218 : decode cX11_two 218 = .ok (.iload_n 1, 1) := by decide +kernel
theorem dX11_two_219 : decode cX11_two 219 = .ok (.aaload, 1) := by decide +kernel
theorem dX11_two_220 : decode cX11_two 220 = .ok (.aload_n 0, 1) := by decide +kernel
theorem dX11_two_221 : decode cX11_two 221 = .ok (.getfield 55, 3) := by decide +kernel
theorem dX11_two_224 : decode cX11_two 224 = .ok (.bipush (-9), 2) := by decide +kernel
theorem dX11_two_226 : decode cX11_two 226 = .ok (.invokevirtual 396, 3) := by decide +kernel
theorem dX11_two_229 : decode cX11_two 229 = .ok (.istore 6, 2) := by decide +kernel
theorem dX11_two_231 : decode cX11_two 231 = .ok (.aload_n 0, 1) := by decide +kernel
theorem dX11_two_232 : decode cX11_two 232 = .ok (.getfield 83, 3) := by decide +kernel
theorem dX11_two_235 : decode cX11_two 235 = .ok (.aload_n 0, 1) := by decide +kernel
theorem dX11_two_236 : decode cX11_two 236 = .ok (.getfield 38, 3) := by decide +kernel
theorem dX11_two_239 : decode cX11_two 239 = .ok (.iconst (-1), 1) := by decide +kernel
theorem dX11_two_240 : decode cX11_two 240 = .ok (.invokevirtual 392, 3) := by decide +kernel
theorem dX11_two_243 : decode cX11_two 243 = .ok (.iload_n 3, 1) := by decide +kernel
theorem dX11_two_244 : decode cX11_two 244 = .ok (.bipush (-9), 2) := by decide +kernel
theorem dX11_two_246 : decode cX11_two 246 = .ok (.if_icmp .eq 10, 3) := by decide +kernel
theorem dX11_two_249 : decode cX11_two 249 = .ok (.iload 5, 2) := by decide +kernel
theorem dX11_two_251 : decode cX11_two 251 = .ok (.bipush (-9), 2) := by decide +kernel
theorem dX11_two_253 : decode cX11_two 253 = .ok (.if_icmp .ne 6, 3) := by decide +kernel
theorem dX11_two_256 : decode cX11_two 256 = .ok (.bipush (-9), 2) := by decide +kernel
theorem dX11_two_258 : decode cX11_two 258 = .ok (.ireturn, 1) := by decide +kernel
theorem dX11_two_259 : decode cX11_two 259 = .ok (.iload_n 3, 1) := by decide +kernel
theorem dX11_two_260 : decode cX11_two 260 = .ok (.iload 5, 2) := by decide +kernel
theorem dX11_two_262 : decode cX11_two 262 = .ok (.iadd, 1) := by decide +kernel
theorem dX11_two_263 : decode cX11_two 263 = .ok (.istore_n 3, 1) := by decide +kernel
theorem dX11_two_264 : decode cX11_two 264 = .ok (.iload 4, 2) := by decide +kernel
theorem dX11_two_266 : decode cX11_two 266 = .ok (.iload 6, 2) := by decide +kernel
theorem dX11_two_268 : decode cX11_two 268 = .ok (.iadd, 1) := by decide +kernel
theorem dX11_two_269 : decode cX11_two 269 = .ok (.istore 4, 2) := by decide +kernel
theorem dX11_two_271 : decode cX11_two 271 = .ok (.aload_n 0, 1) := by decide +kernel
theorem dX11_two_272 : decode cX11_two 272 = .ok (.getfield 12, 3) := by decide +kernel
theorem dX11_two_275 : decode cX11_two 275 = .ok (.iload_n 3, 1) := by decide +kernel
theorem dX11_two_276 : decode cX11_two 276 = .ok (.iload 4, 2) := by decide +kernel
theorem dX11_two_278 : decode cX11_two 278 = .ok (.invokestatic 399, 3) := by decide +kernel
theorem dX11_two_281 : decode cX11_two 281 = .ok (.invokevirtual 132, 3) := by decide +kernel
theorem dX11_two_284 : decode cX11_two 284 = .ok (.pop, 1) := by decide +kernel
theorem dX11_two_285 : decode cX11_two 285 = .ok (.iload_n 3, 1) := by decide +kernel
theorem dX11_two_286 : decode cX11_two 286 = .ok (.iload 4, 2) := by decide +kernel
theorem dX11_two_288 : decode cX11_two 288 = .ok (.if_icmp .gt 7, 3) := by decide +kernel
theorem dX11_two_291 : decode cX11_two 291 = .ok (.iconst 0, 1) := by decide +kernel
theorem dX11_two_292 : decode cX11_two 292 = .ok (.goto 4, 3) := by decide +kernel
theorem dX11_two_295 : decode cX11_two 295 = .ok (.iconst 1, 1) := by decide +kernel
theorem dX11_two_296 : decode cX11_two 296 = .ok (.ireturn, 1) := by decide +kernel
theorem dX11_stiff_0 : decode cX11_stiff 0 = .ok (.aload_n 0, 1) := by decide +kernel
theorem dX11_stiff_1 : decode cX11_stiff 1 = .ok (.iload_n 1, 1) := by decide +kernel
theorem dX11_stiff_2 : decode cX11_stiff 2 = .ok (.invokevirtual 186, 3) := by decide +kernel
theorem dX11_stiff_5 : decode cX11_stiff 5 = .ok (.ifCond .eq 10, 3) := by decide +kernel
theorem dX11_stiff_8 : decode cX11_stiff 8 = .ok (.iload_n 2, 1) := by decide +kernel
theorem dX11_stiff_9 : decode cX11_stiff 9 = .ok (.invokestatic 272, 3) := by decide +kernel
theorem dX11_stiff_12 : decode cX11_stiff 12 = .ok (.ifCond .ne 5, 3) := by decide +kernel
theorem dX11_stiff_15 : decode cX11_stiff 15 = .ok (.iconst (-1), 1) := by decide +kernel
theorem dX11_stiff_16 : decode cX11_stiff 16 = .ok (.ireturn, 1) := by decide +kernel
theorem dX11_stiff_17 : decode cX11_stiff 17 = .ok (.aload_n 0, 1) := by decide +kernel
theorem dX11_stiff_18 : decode cX11_stiff 18 = .ok (.getfield 68, 3) := by decide +kernel
theorem dX11_stiff_21 : decode cX11_stiff 21 = .ok (.iload_n 2, 1) := by decide +kernel
theorem dX11_stiff_22 : decode cX11_stiff 22 = .ok (.aaload, 1) := by decide +kernel
theorem dX11_stiff_23 : decode cX11_stiff 23 = .ok (.getfield 284, 3) := by decide +kernel
theorem dX11_stiff_26 : decode cX11_stiff 26 = .ok (.ifCond .ne 12, 3) := by decide +kernel
theorem dX11_stiff_29 : decode cX11_stiff 29 = .ok (.aload_n 0, 1) := by decide +kernel
theorem dX11_stiff_30 : decode cX11_stiff 30 = .ok (.getfield 12, 3) := by decide +kernel
theorem dX11_stiff_33 : decode cX11_stiff 33 = .ok (.iconst 1, 1) := by decide +kernel
theorem dX11_stiff_34 : decode cX11_stiff 34 = .ok (.invokevirtual 111, 3) := by decide +kernel
theorem dX11_stiff_37 : decode cX11_stiff 37 = .ok (.ireturn, 1) := by decide +kernel
theorem dX11_stiff_38 : decode cX11_stiff 38 = .ok (.aload_n 0, 1) := by decide +kernel
theorem dX11_stiff_39 : decode cX11_stiff 39 = .ok (.getfield 83, 3) := by decide +kernel
theorem dX11_stiff_42 : decode cX11_stiff 42 = .ok (.getfield 302, 3) := by decide +kernel
theorem dX11_stiff_45 : decode cX11_stiff 45 = .ok (.ifCond .eq 6, 3) := by decide +kernel
theorem dX11_stiff_48 : decode cX11_stiff 48 = .ok (.bipush (-6), 2) := by decide +kernel
theorem dX11_stiff_50 : decode cX11_stiff 50 = .ok (.ireturn, 1) := by decide +kernel
theorem dX11_stiff_51 : decode cX11_stiff 51 = .ok (.aload_n 0, 1) := by decide +kernel
theorem dX11_stiff_52 : decode cX11_stiff 52 = .ok (.getfield 83, 3) := by decide +kernel
theorem dX11_stiff_55 : decode cX11_stiff 55 = .ok (.aload_n 0, 1) := by decide +kernel
theorem dX11_stiff_56 : decode cX11_stiff 56 = .ok (.getfield 38, 3) := by decide +kernel
theorem dX11_stiff_59 : decode cX11_stiff 59 = .ok (.aload_n 0, 1) := by decide +kernel
theorem dX11_stiff_60 : decode cX11_stiff 60 = .ok (.getfield 48, 3) := by decide +kernel
theorem dX11_stiff_63 : decode cX11_stiff 63 = .ok (.iconst (-1), 1) := by decide +kernel
theorem dX11_stiff_64 : decode cX11_stiff 64 = .ok (.invokevirtual 311, 3) := by decide +kernel
theorem dX11_stiff_67 : decode cX11_stiff 67 = .ok (.aload_n 0, 1) := by decide +kernel
theorem dX11_stiff_68 : decode cX11_stiff 68 = .ok (.getfield 83, 3) := by decide +kernel
theorem dX11_stiff_71 : decode cX11_stiff 71 = .ok (.aload_n 0, 1) := by decide +kernel
theorem dX11_stiff_72 : decode cX11_stiff 72 = .ok (.getfield 38, 3) := by decide +kernel
theorem dX11_stiff_75 : decode cX11_stiff 75 = .ok (.aload_n 0, 1) := by decide +kernel
theorem dX11_stiff_76 : decode cX11_stiff 76 = .ok (.getfield 68, 3) := by decide +kernel
theorem dX11_stiff_79 : decode cX11_stiff 79 = .ok (.iload_n 2, 1) := by decide +kernel
theorem dX11_stiff_80 : decode cX11_stiff 80 = .ok (.aaload, 1) := by decide +kernel
theorem dX11_stiff_81 : decode cX11_stiff 81 = .ok (.aload_n 0, 1) := by decide +kernel
theorem dX11_stiff_82 : decode cX11_stiff 82 = .ok (.getfield 55, 3) := by decide +kernel
theorem dX11_stiff_85 : decode cX11_stiff 85 = .ok (.iload_n 1, 1) := by decide +kernel
theorem dX11_stiff_86 : decode cX11_stiff 86 = .ok (.invokevirtual 396, 3) := by decide +kernel
theorem dX11_stiff_89 : decode cX11_stiff 89 = .ok (.istore_n 3, 1) := by decide +kernel
theorem dX11_stiff_90 : decode cX11_stiff 90 = .ok (.iload_n 3, 1) := by decide +kernel
theorem dX11_stiff_91 : decode cX11_stiff 91 = .ok (.bipush (-9), 2) := by decide +kernel
theorem dX11_stiff_93 : decode cX11_stiff 93 = .ok (.if_icmp .ne 6, 3) := by decide +kernel
theorem dX11_stiff_96 : decode cX11_stiff 96 = .ok (.bipush (-9), 2) := by decide +kernel
theorem dX11_stiff_98 : decode cX11_stiff 98 = .ok (.ireturn, 1) := by decide +kernel
theorem dX11_stiff_99 : decode cX11_stiff 99 = .ok (.aload_n 0, 1) := by decide +kernel
theorem dX11_stiff_100 : decode cX11_stiff 100 = .ok (.getfield 12, 3) := by decide +kernel
theorem dX11_stiff_103 : decode cX11_stiff 103 = .ok (.iload_n 3, 1) := by decide +kernel
theorem dX11_stiff_104 : decode cX11_stiff 104 = .ok (.invokevirtual 132, 3) := by decide +kernel
theorem dX11_stiff_107 : decode cX11_stiff 107 = .ok (.pop, 1) := by decide +kernel
theorem dX11_stiff_108 : decode cX11_stiff 108 = .ok (.iload_n 3, 1) := by decide +kernel
theorem dX11_stiff_109 : decode cX11_stiff 109 = .ok (.aload_n 0, 1) := by decide +kernel
theorem dX11_stiff_110 : decode cX11_stiff 110 = .ok (.getfield 83, 3) := by decide +kernel
theorem dX11_stiff_113 : decode cX11_stiff 113 = .ok (.aload_n 0, 1) := by decide +kernel
theorem dX11_stiff_114 : decode cX11_stiff 114 = .ok (.getfield 38, 3) := by decide +kernel
theorem dX11_stiff_117 : decode cX11_stiff 117 = .ok (.aload_n 0, 1) := by decide +kernel
theorem dX11_stiff_118 : decode cX11_stiff 118 = .ok (.getfield 68, 3) := by decide +kernel
theorem dX11_stiff_121 : decode cX11_stiff 121 = .ok (.iload_n 2, 1) := by decide +kernel
theorem dX11_stiff_122 : decode cX11_stiff 122 = .ok (.aaload, 1) := by decide +kernel
theorem dX11_stiff_123 : decode cX11_stiff 123 = .ok (.aload_n 0, 1) := by decide +kernel
theorem dX11_stiff_124 : decode cX11_stiff 124 = .ok (.getfield 55, 3) := by decide +kernel
theorem dX11_stiff_127 : decode cX11_stiff 127 = .ok (.bipush (-9), 2) := by decide +kernel
theorem dX11_stiff_129 : decode cX11_stiff 129 = .ok (.invokevirtual 396, 3) := by decide +kernel
theorem dX11_stiff_132 : decode cX11_stiff 132 = .ok (.isub, 1) := by decide +kernel
theorem dX11_stiff_133 : decode cX11_stiff 133 = .ok (.ireturn, 1) := by decide +kernel
theorem dX11_looker_0 : decode cX11_looker 0 = .ok (.iload_n 1, 1) := by decide +kernel
theorem dX11_looker_1 : decode cX11_looker 1 = .ok (.invokestatic 405, 3) := by decide +kernel
theorem dX11_looker_4 : decode cX11_looker 4 = .ok (.ifCond .eq 17, 3) := by decide +kernel
theorem dX11_looker_7 : decode cX11_looker 7 = .ok (.iload_n 2, 1) := by decide +kernel
theorem dX11_looker_8 : decode cX11_looker 8 = .ok (.invokestatic 405, 3) := by decide +kernel
theorem dX11_looker_11 : decode cX11_looker 11 = .ok (.ifCond .eq 10, 3) := by decide +kernel
theorem dX11_looker_14 : decode cX11_looker 14 = .ok (.iload_n 3, 1) := by decide +kernel
theorem dX11_looker_15 : decode cX11_looker 15 = .ok (.invokestatic 405, 3) := by decide +kernel
theorem dX11_looker_18 : decode cX11_looker 18 = .ok (.ifCond .ne 5, 3) := by decide +kernel
theorem dX11_looker_21 : decode cX11_looker 21 = .ok (.iconst (-1), 1) := by decide +kernel
theorem dX11_looker_22 : decode cX11_looker 22 = .ok (.ireturn, 1) := by decide +kernel
theorem dX11_looker_23 : decode cX11_looker 23 = .ok (.aload_n 0, 1) := by decide +kernel
theorem dX11_looker_24 : decode cX11_looker 24 = .ok (.getfield 76, 3) := by decide +kernel
theorem dX11_looker_27 : decode cX11_looker 27 = .ok (.getfield 408, 3) := by decide +kernel
theorem dX11_looker_30 : decode cX11_looker 30 = .ok (.bipush 8, 2) := by decide +kernel
theorem dX11_looker_32 : decode cX11_looker 32 = .ok (.if_icmp .lt 6, 3) := by decide +kernel
theorem dX11_looker_35 : decode cX11_looker 35 = .ok (.bipush (-2), 2) := by decide +kernel
theorem dX11_looker_37 : decode cX11_looker 37 = .ok (.ireturn, 1) := by decide +kernel
theorem dX11_looker_38 : decode cX11_looker 38 = .ok (.aload_n 0, 1) := by decide +kernel
theorem dX11_looker_39 : decode cX11_looker 39 = .ok (.getfield 76, 3) := by decide +kernel
theorem dX11_looker_42 : decode cX11_looker 42 = .ok (.iload_n 1, 1) := by decide +kernel
theorem dX11_looker_43 : decode cX11_looker 43 = .ok (.iload_n 2, 1) := by decide +kernel
theorem dX11_looker_44 : decode cX11_looker 44 = .ok (.iload_n 3, 1) := by decide +kernel
theorem dX11_looker_45 : decode cX11_looker 45 = .ok (.invokevirtual 410, 3) := by decide +kernel
theorem dX11_looker_48 : decode cX11_looker 48 = .ok (.ireturn, 1) := by decide +kernel
theorem dX11_weight_0 : decode cX11_weight 0 = .ok (.aload_n 0, 1) := by decide +kernel
theorem dX11_weight_1 : decode cX11_weight 1 = .ok (.iload_n 1, 1) := by decide +kernel
theorem dX11_weight_2 : decode cX11_weight 2 = .ok (.invokevirtual 414, 3) := by decide +kernel
theorem dX11_weight_5 : decode cX11_weight 5 = .ok (.ifCond .eq 12, 3) := by decide +kernel
theorem dX11_weight_8 : decode cX11_weight 8 = .ok (.iload_n 2, 1) := by decide +kernel
theorem dX11_weight_9 : decode cX11_weight 9 = .ok (.ifCond .lt 8, 3) := by decide +kernel
theorem dX11_weight_12 : decode cX11_weight 12 = .ok (.iload_n 2, 1) := by decide +kernel
theorem dX11_weight_13 : decode cX11_weight 13 = .ok (.iconst 3, 1) := by decide +kernel
theorem dX11_weight_14 : decode cX11_weight 14 = .ok (.if_icmp .lt 5, 3) := by decide +kernel
theorem dX11_weight_17 : decode cX11_weight 17 = .ok (.iconst (-1), 1) := by decide +kernel
theorem dX11_weight_18 : decode cX11_weight 18 = .ok (.ireturn, 1) := by decide +kernel
theorem dX11_weight_19 : decode cX11_weight 19 = .ok (.aload_n 0, 1) := by decide +kernel
theorem dX11_weight_20 : decode cX11_weight 20 = .ok (.getfield 12, 3) := by decide +kernel
theorem dX11_weight_23 : decode cX11_weight 23 = .ok (.aload_n 0, 1) := by decide +kernel
theorem dX11_weight_24 : decode cX11_weight 24 = .ok (.getfield 76, 3) := by decide +kernel
theorem dX11_weight_27 : decode cX11_weight 27 = .ok (.getfield 417, 3) := by decide +kernel
theorem dX11_weight_30 : decode cX11_weight 30 = .ok (.iload_n 1, 1) := by decide +kernel
theorem dX11_weight_31 : decode cX11_weight 31 = .ok (.aaload, 1) := by decide +kernel
theorem dX11_weight_32 : decode cX11_weight 32 = .ok (.iload_n 2, 1) := by decide +kernel
theorem dX11_weight_33 : decode cX11_weight 33 = .ok (.iaload, 1) := by decide +kernel
theorem dX11_weight_34 : decode cX11_weight 34 = .ok (.invokevirtual 132, 3) := by decide +kernel
theorem dX11_weight_37 : decode cX11_weight 37 = .ok (.ireturn, 1) := by decide +kernel
theorem dX11_call_0 : decode cX11_call 0 = .ok (.aload_n 0, 1) := by decide +kernel
theorem dX11_call_1 : decode cX11_call 1 = .ok (.iload_n 1, 1) := by decide +kernel
theorem dX11_call_2 : decode cX11_call 2 = .ok (.invokevirtual 414, 3) := by decide +kernel
theorem dX11_call_5 : decode cX11_call 5 = .ok (.ifCond .eq 18, 3) := by decide +kernel
theorem dX11_call_8 : decode cX11_call 8 = .ok (.aload_n 0, 1) := by decide +kernel
theorem dX11_call_9 : decode cX11_call 9 = .ok (.iload_n 2, 1) := by decide +kernel
theorem dX11_call_10 : decode cX11_call 10 = .ok (.invokevirtual 227, 3) := by decide +kernel
theorem dX11_call_13 : decode cX11_call 13 = .ok (.ifCond .eq 10, 3) := by decide +kernel
theorem dX11_call_16 : decode cX11_call 16 = .ok (.iload_n 3, 1) := by decide +kernel
theorem dX11_call_17 : decode cX11_call 17 = .ok (.invokestatic 272, 3) := by decide +kernel
theorem dX11_call_20 : decode cX11_call 20 = .ok (.ifCond .ne 5, 3) := by decide +kernel
theorem dX11_call_23 : decode cX11_call 23 = .ok (.iconst (-1), 1) := by decide +kernel
theorem dX11_call_24 : decode cX11_call 24 = .ok (.ireturn, 1) := by decide +kernel
theorem dX11_call_25 : decode cX11_call 25 = .ok (.aload_n 0, 1) := by decide +kernel
theorem dX11_call_26 : decode cX11_call 26 = .ok (.getfield 68, 3) := by decide +kernel
theorem dX11_call_29 : decode cX11_call 29 = .ok (.iload_n 3, 1) := by decide +kernel
theorem dX11_call_30 : decode cX11_call 30 = .ok (.aaload, 1) := by decide +kernel
theorem dX11_call_31 : decode cX11_call 31 = .ok (.getfield 284, 3) := by decide +kernel
theorem dX11_call_34 : decode cX11_call 34 = .ok (.ifCond .ne 12, 3) := by decide +kernel
theorem dX11_call_37 : decode cX11_call 37 = .ok (.aload_n 0, 1) := by decide +kernel
theorem dX11_call_38 : decode cX11_call 38 = .ok (.getfield 12, 3) := by decide +kernel
theorem dX11_call_41 : decode cX11_call 41 = .ok (.iconst 1, 1) := by decide +kernel
theorem dX11_call_42 : decode cX11_call 42 = .ok (.invokevirtual 111, 3) := by decide +kernel
theorem dX11_call_45 : decode cX11_call 45 = .ok (.ireturn, 1) := by decide +kernel
theorem dX11_call_46 : decode cX11_call 46 = .ok (.aload_n 0, 1) := by decide +kernel
theorem dX11_call_47 : decode cX11_call 47 = .ok (.getfield 76, 3) := by decide +kernel
theorem dX11_call_50 : decode cX11_call 50 = .ok (.getfield 421, 3) := by decide +kernel
theorem dX11_call_53 : decode cX11_call 53 = .ok (.bipush 24, 2) := by decide +kernel
theorem dX11_call_55 : decode cX11_call 55 = .ok (.if_icmp .lt 6, 3) := by decide +kernel
theorem dX11_call_58 : decode cX11_call 58 = .ok (.bipush (-2), 2) := by decide +kernel
theorem dX11_call_60 : decode cX11_call 60 = .ok (.ireturn, 1) := by decide +kernel
theorem dX11_call_61 : decode cX11_call 61 = .ok (.aload_n 0, 1) := by decide +kernel
theorem dX11_call_62 : decode cX11_call 62 = .ok (.getfield 76, 3) := by decide +kernel
theorem dX11_call_65 : decode cX11_call 65 = .ok (.iload_n 1, 1) := by decide +kernel
theorem dX11_call_66 : decode cX11_call 66 = .ok (.iload_n 2, 1) := by decide +kernel
theorem dX11_call_67 : decode cX11_call 67 = .ok (.iload_n 3, 1) := by decide +kernel
theorem dX11_call_68 : decode cX11_call 68 = .ok (.invokevirtual 424, 3) := by decide +kernel
theorem dX11_call_71 : decode cX11_call 71 = .ok (.ireturn, 1) := by decide +kernel
theorem dX11_guess_0 : decode cX11_guess 0 = .ok (.aload_n 0, 1) := by decide +kernel
theorem dX11_guess_1 : decode cX11_guess 1 = .ok (.iload_n 1, 1) := by decide +kernel
theorem dX11_guess_2 : decode cX11_guess 2 = .ok (.invokevirtual 414, 3) := by decide +kernel
theorem dX11_guess_5 : decode cX11_guess 5 = .ok (.ifCond .eq 11, 3) := by decide +kernel
theorem dX11_guess_8 : decode cX11_guess 8 = .ok (.aload_n 0, 1) := by decide +kernel
theorem dX11_guess_9 : decode cX11_guess 9 = .ok (.iload_n 2, 1) := by decide +kernel
theorem dX11_guess_10 : decode cX11_guess 10 = .ok (.invokevirtual 227, 3) := by decide +kernel
theorem dX11_guess_13 : decode cX11_guess 13 = .ok (.ifCond .ne 5, 3) := by decide +kernel
theorem dX11_guess_16 : decode cX11_guess 16 = .ok (.iconst (-1), 1) := by decide +kernel
theorem dX11_guess_17 : decode cX11_guess 17 = .ok (.ireturn, 1) := by decide +kernel
theorem dX11_guess_18 : decode cX11_guess 18 = .ok (.aload_n 0, 1) := by decide +kernel
theorem dX11_guess_19 : decode cX11_guess 19 = .ok (.iload_n 1, 1) := by decide +kernel
theorem dX11_guess_20 : decode cX11_guess 20 = .ok (.iload_n 2, 1) := by decide +kernel
theorem dX11_guess_21 : decode cX11_guess 21 = .ok (.invokevirtual 427, 3) := by decide +kernel
theorem dX11_guess_24 : decode cX11_guess 24 = .ok (.istore_n 3, 1) := by decide +kernel
theorem dX11_guess_25 : decode cX11_guess 25 = .ok (.iload_n 3, 1) := by decide +kernel
theorem dX11_guess_26 : decode cX11_guess 26 = .ok (.bipush (-9), 2) := by decide +kernel
theorem dX11_guess_28 : decode cX11_guess 28 = .ok (.if_icmp .ne 6, 3) := by decide +kernel
theorem dX11_guess_31 : decode cX11_guess 31 = .ok (.bipush (-9), 2) := by decide +kernel
theorem dX11_guess_33 : decode cX11_guess 33 = .ok (.ireturn, 1) := by decide +kernel
theorem dX11_guess_34 : decode cX11_guess 34 = .ok (.aload_n 0, 1) := by decide +kernel
theorem dX11_guess_35 : decode cX11_guess 35 = .ok (.getfield 12, 3) := by decide +kernel
theorem dX11_guess_38 : decode cX11_guess 38 = .ok (.aload_n 0, 1) := by decide +kernel
theorem dX11_guess_39 : decode cX11_guess 39 = .ok (.getfield 76, 3) := by decide +kernel
theorem dX11_guess_42 : decode cX11_guess 42 = .ok (.getfield 430, 3) := by decide +kernel
theorem dX11_guess_45 : decode cX11_guess 45 = .ok (.invokevirtual 132, 3) := by decide +kernel
theorem dX11_guess_48 : decode cX11_guess 48 = .ok (.pop, 1) := by decide +kernel
theorem dX11_guess_49 : decode cX11_guess 49 = .ok (.iload_n 3, 1) := by decide +kernel
theorem dX11_guess_50 : decode cX11_guess 50 = .ok (.ireturn, 1) := by decide +kernel
theorem dX11_agrees_0 : decode cX11_agrees 0 = .ok (.aload_n 0, 1) := by decide +kernel
theorem dX11_agrees_1 : decode cX11_agrees 1 = .ok (.iload_n 1, 1) := by decide +kernel
theorem dX11_agrees_2 : decode cX11_agrees 2 = .ok (.invokevirtual 414, 3) := by decide +kernel
theorem dX11_agrees_5 : decode cX11_agrees 5 = .ok (.ifCond .ne 5, 3) := by decide +kernel
theorem dX11_agrees_8 : decode cX11_agrees 8 = .ok (.iconst (-1), 1) := by decide +kernel
theorem dX11_agrees_9 : decode cX11_agrees 9 = .ok (.ireturn, 1) := by decide +kernel
theorem dX11_agrees_10 : decode cX11_agrees 10 = .ok (.iconst 0, 1) := by decide +kernel
theorem dX11_agrees_11 : decode cX11_agrees 11 = .ok (.istore_n 2, 1) := by decide +kernel
theorem dX11_agrees_12 : decode cX11_agrees 12 = .ok (.iconst 0, 1) := by decide +kernel
theorem dX11_agrees_13 : decode cX11_agrees 13 = .ok (.istore_n 3, 1) := by decide +kernel
theorem dX11_agrees_14 : decode cX11_agrees 14 = .ok (.iconst 0, 1) := by decide +kernel
theorem dX11_agrees_15 : decode cX11_agrees 15 = .ok (.istore 4, 2) := by decide +kernel
theorem dX11_agrees_17 : decode cX11_agrees 17 = .ok (.iload 4, 2) := by decide +kernel
theorem dX11_agrees_19 : decode cX11_agrees 19 = .ok (.aload_n 0, 1) := by decide +kernel
theorem dX11_agrees_20 : decode cX11_agrees 20 = .ok (.getfield 76, 3) := by decide +kernel
theorem dX11_agrees_23 : decode cX11_agrees 23 = .ok (.getfield 421, 3) := by decide +kernel
theorem dX11_agrees_26 : decode cX11_agrees 26 = .ok (.if_icmp .ge 60, 3) := by decide +kernel
theorem dX11_agrees_29 : decode cX11_agrees 29 = .ok (.aload_n 0, 1) := by decide +kernel
theorem dX11_agrees_30 : decode cX11_agrees 30 = .ok (.getfield 76, 3) := by decide +kernel
theorem dX11_agrees_33 : decode cX11_agrees 33 = .ok (.getfield 433, 3) := by decide +kernel
theorem dX11_agrees_36 : decode cX11_agrees 36 = .ok (.iload 4, 2) := by decide +kernel
theorem dX11_agrees_38 : decode cX11_agrees 38 = .ok (.iaload, 1) := by decide +kernel
theorem dX11_agrees_39 : decode cX11_agrees 39 = .ok (.iload_n 1, 1) := by decide +kernel
theorem dX11_agrees_40 : decode cX11_agrees 40 = .ok (.if_icmp .eq 6, 3) := by decide +kernel
theorem dX11_agrees_43 : decode cX11_agrees 43 = .ok (.goto 37, 3) := by decide +kernel
theorem dX11_agrees_46 : decode cX11_agrees 46 = .ok (.iinc 2 1, 3) := by decide +kernel
theorem dX11_agrees_49 : decode cX11_agrees 49 = .ok (.aload_n 0, 1) := by decide +kernel
theorem dX11_agrees_50 : decode cX11_agrees 50 = .ok (.iload_n 1, 1) := by decide +kernel
theorem dX11_agrees_51 : decode cX11_agrees 51 = .ok (.aload_n 0, 1) := by decide +kernel
theorem dX11_agrees_52 : decode cX11_agrees 52 = .ok (.getfield 76, 3) := by decide +kernel
theorem dX11_agrees_55 : decode cX11_agrees 55 = .ok (.getfield 436, 3) := by decide +kernel
theorem dX11_agrees_58 : decode cX11_agrees 58 = .ok (.iload 4, 2) := by decide +kernel
theorem dX11_agrees_60 : decode cX11_agrees 60 = .ok (.iaload, 1) := by decide +kernel
theorem dX11_agrees_61 : decode cX11_agrees 61 = .ok (.invokevirtual 427, 3) := by decide +kernel
theorem dX11_agrees_64 : decode cX11_agrees 64 = .ok (.aload_n 0, 1) := by decide +kernel
theorem dX11_agrees_65 : decode cX11_agrees 65 = .ok (.getfield 76, 3) := by decide +kernel
theorem dX11_agrees_68 : decode cX11_agrees 68 = .ok (.getfield 439, 3) := by decide +kernel
theorem dX11_agrees_71 : decode cX11_agrees 71 = .ok (.iload 4, 2) := by decide +kernel
theorem dX11_agrees_73 : decode cX11_agrees 73 = .ok (.iaload, 1) := by decide +kernel
theorem dX11_agrees_74 : decode cX11_agrees 74 = .ok (.if_icmp .ne 6, 3) := by decide +kernel
theorem dX11_agrees_77 : decode cX11_agrees 77 = .ok (.iinc 3 1, 3) := by decide +kernel
theorem dX11_agrees_80 : decode cX11_agrees 80 = .ok (.iinc 4 1, 3) := by decide +kernel
theorem dX11_agrees_83 : decode cX11_agrees 83 = .ok (.goto (-66), 3) := by decide +kernel
theorem dX11_agrees_86 : decode cX11_agrees 86 = .ok (.aload_n 0, 1) := by decide +kernel
theorem dX11_agrees_87 : decode cX11_agrees 87 = .ok (.getfield 12, 3) := by decide +kernel
theorem dX11_agrees_90 : decode cX11_agrees 90 = .ok (.iload_n 2, 1) := by decide +kernel
theorem dX11_agrees_91 : decode cX11_agrees 91 = .ok (.invokevirtual 132, 3) := by decide +kernel
theorem dX11_agrees_94 : decode cX11_agrees 94 = .ok (.pop, 1) := by decide +kernel
theorem dX11_agrees_95 : decode cX11_agrees 95 = .ok (.iload_n 3, 1) := by decide +kernel
theorem dX11_agrees_96 : decode cX11_agrees 96 = .ok (.ireturn, 1) := by decide +kernel
theorem dX11_fit_0 : decode cX11_fit 0 = .ok (.aload_n 0, 1) := by decide +kernel
theorem dX11_fit_1 : decode cX11_fit 1 = .ok (.iload_n 1, 1) := by decide +kernel
theorem dX11_fit_2 : decode cX11_fit 2 = .ok (.invokevirtual 414, 3) := by decide +kernel
theorem dX11_fit_5 : decode cX11_fit 5 = .ok (.ifCond .ne 5, 3) := by decide +kernel
theorem dX11_fit_8 : decode cX11_fit 8 = .ok (.iconst (-1), 1) := by decide +kernel
theorem dX11_fit_9 : decode cX11_fit 9 = .ok (.ireturn, 1) := by decide +kernel
theorem dX11_fit_10 : decode cX11_fit 10 = .ok (.aload_n 0, 1) := by decide +kernel
theorem dX11_fit_11 : decode cX11_fit 11 = .ok (.getfield 76, 3) := by decide +kernel
theorem dX11_fit_14 : decode cX11_fit 14 = .ok (.invokevirtual 442, 3) := by decide +kernel
theorem dX11_fit_17 : decode cX11_fit 17 = .ok (.iconst 0, 1) := by decide +kernel
theorem dX11_fit_18 : decode cX11_fit 18 = .ok (.istore_n 2, 1) := by decide +kernel
theorem dX11_fit_19 : decode cX11_fit 19 = .ok (.iload_n 2, 1) := by decide +kernel
theorem dX11_fit_20 : decode cX11_fit 20 = .ok (.aload_n 0, 1) := by decide +kernel
theorem dX11_fit_21 : decode cX11_fit 21 = .ok (.getfield 76, 3) := by decide +kernel
theorem dX11_fit_24 : decode cX11_fit 24 = .ok (.getfield 421, 3) := by decide +kernel
theorem dX11_fit_27 : decode cX11_fit 27 = .ok (.if_icmp .ge 58, 3) := by decide +kernel
theorem dX11_fit_30 : decode cX11_fit 30 = .ok (.aload_n 0, 1) := by decide +kernel
theorem dX11_fit_31 : decode cX11_fit 31 = .ok (.getfield 76, 3) := by decide +kernel
theorem dX11_fit_34 : decode cX11_fit 34 = .ok (.getfield 433, 3) := by decide +kernel
theorem dX11_fit_37 : decode cX11_fit 37 = .ok (.iload_n 2, 1) := by decide +kernel
theorem dX11_fit_38 : decode cX11_fit 38 = .ok (.iaload, 1) := by decide +kernel
theorem dX11_fit_39 : decode cX11_fit 39 = .ok (.iload_n 1, 1) := by decide +kernel
theorem dX11_fit_40 : decode cX11_fit 40 = .ok (.if_icmp .eq 6, 3) := by decide +kernel
theorem dX11_fit_43 : decode cX11_fit 43 = .ok (.goto 36, 3) := by decide +kernel
theorem dX11_fit_46 : decode cX11_fit 46 = .ok (.aload_n 0, 1) := by decide +kernel
theorem dX11_fit_47 : decode cX11_fit 47 = .ok (.aload_n 0, 1) := by decide +kernel
theorem dX11_fit_48 : decode cX11_fit 48 = .ok (.getfield 76, 3) := by decide +kernel
theorem dX11_fit_51 : decode cX11_fit 51 = .ok (.getfield 436, 3) := by decide +kernel
theorem dX11_fit_54 : decode cX11_fit 54 = .ok (.iload_n 2, 1) := by decide +kernel
theorem dX11_fit_55 : decode cX11_fit 55 = .ok (.iaload, 1) := by decide +kernel
theorem dX11_fit_56 : decode cX11_fit 56 = .ok (.invokevirtual 445, 3) := by decide +kernel
theorem dX11_fit_59 : decode cX11_fit 59 = .ok (.aload_n 0, 1) := by decide +kernel
theorem dX11_fit_60 : decode cX11_fit 60 = .ok (.getfield 76, 3) := by decide +kernel
theorem dX11_fit_63 : decode cX11_fit 63 = .ok (.aload_n 0, 1) := by decide +kernel
theorem dX11_fit_64 : decode cX11_fit 64 = .ok (.getfield 68, 3) := by decide +kernel
theorem dX11_fit_67 : decode cX11_fit 67 = .ok (.aload_n 0, 1) := by decide +kernel
theorem dX11_fit_68 : decode cX11_fit 68 = .ok (.getfield 76, 3) := by decide +kernel
theorem dX11_fit_71 : decode cX11_fit 71 = .ok (.getfield 439, 3) := by decide +kernel
theorem dX11_fit_74 : decode cX11_fit 74 = .ok (.iload_n 2, 1) := by decide +kernel
theorem dX11_fit_75 : decode cX11_fit 75 = .ok (.iaload, 1) := by decide +kernel
theorem dX11_fit_76 : decode cX11_fit 76 = .ok (.invokevirtual 448, 3) := by decide +kernel
theorem dX11_fit_79 : decode cX11_fit 79 = .ok (.iinc 2 1, 3) := by decide +kernel
theorem dX11_fit_82 : decode cX11_fit 82 = .ok (.goto (-63), 3) := by decide +kernel
theorem dX11_fit_85 : decode cX11_fit 85 = .ok (.aload_n 0, 1) := by decide +kernel
theorem dX11_fit_86 : decode cX11_fit 86 = .ok (.getfield 76, 3) := by decide +kernel
theorem dX11_fit_89 : decode cX11_fit 89 = .ok (.invokevirtual 452, 3) := by decide +kernel
theorem dX11_fit_92 : decode cX11_fit 92 = .ok (.istore_n 2, 1) := by decide +kernel
theorem dX11_fit_93 : decode cX11_fit 93 = .ok (.aload_n 0, 1) := by decide +kernel
theorem dX11_fit_94 : decode cX11_fit 94 = .ok (.getfield 12, 3) := by decide +kernel
theorem dX11_fit_97 : decode cX11_fit 97 = .ok (.aload_n 0, 1) := by decide +kernel
theorem dX11_fit_98 : decode cX11_fit 98 = .ok (.getfield 76, 3) := by decide +kernel
theorem dX11_fit_101 : decode cX11_fit 101 = .ok (.getfield 455, 3) := by decide +kernel
theorem dX11_fit_104 : decode cX11_fit 104 = .ok (.iload_n 2, 1) := by decide +kernel
theorem dX11_fit_105 : decode cX11_fit 105 = .ok (.iaload, 1) := by decide +kernel
theorem dX11_fit_106 : decode cX11_fit 106 = .ok (.invokevirtual 132, 3) := by decide +kernel
theorem dX11_fit_109 : decode cX11_fit 109 = .ok (.pop, 1) := by decide +kernel
theorem dX11_fit_110 : decode cX11_fit 110 = .ok (.iload_n 2, 1) := by decide +kernel
theorem dX11_fit_111 : decode cX11_fit 111 = .ok (.invokestatic 458, 3) := by decide +kernel
theorem dX11_fit_114 : decode cX11_fit 114 = .ok (.ireturn, 1) := by decide +kernel
theorem dX11_odds_0 : decode cX11_odds 0 = .ok (.aload_n 0, 1) := by decide +kernel
theorem dX11_odds_1 : decode cX11_odds 1 = .ok (.iload_n 1, 1) := by decide +kernel
theorem dX11_odds_2 : decode cX11_odds 2 = .ok (.invokevirtual 227, 3) := by decide +kernel
theorem dX11_odds_5 : decode cX11_odds 5 = .ok (.ifCond .eq 10, 3) := by decide +kernel
theorem dX11_odds_8 : decode cX11_odds 8 = .ok (.iload_n 2, 1) := by decide +kernel
theorem dX11_odds_9 : decode cX11_odds 9 = .ok (.invokestatic 272, 3) := by decide +kernel
theorem dX11_odds_12 : decode cX11_odds 12 = .ok (.ifCond .ne 5, 3) := by decide +kernel
theorem dX11_odds_15 : decode cX11_odds 15 = .ok (.iconst (-1), 1) := by decide +kernel
theorem dX11_odds_16 : decode cX11_odds 16 = .ok (.ireturn, 1) := by decide +kernel
theorem dX11_odds_17 : decode cX11_odds 17 = .ok (.aload_n 0, 1) := by decide +kernel
theorem dX11_odds_18 : decode cX11_odds 18 = .ok (.getfield 76, 3) := by decide +kernel
theorem dX11_odds_21 : decode cX11_odds 21 = .ok (.iload_n 1, 1) := by decide +kernel
theorem dX11_odds_22 : decode cX11_odds 22 = .ok (.bipush (-9), 2) := by decide +kernel
theorem dX11_odds_24 : decode cX11_odds 24 = .ok (.invokevirtual 461, 3) := by decide +kernel
theorem dX11_odds_27 : decode cX11_odds 27 = .ok (.istore_n 3, 1) := by decide +kernel
theorem dX11_odds_28 : decode cX11_odds 28 = .ok (.iload_n 3, 1) := by decide +kernel
theorem dX11_odds_29 : decode cX11_odds 29 = .ok (.iconst 1, 1) := by decide +kernel
theorem dX11_odds_30 : decode cX11_odds 30 = .ok (.if_icmp .ge 12, 3) := by decide +kernel
theorem dX11_odds_33 : decode cX11_odds 33 = .ok (.aload_n 0, 1) := by decide +kernel
theorem dX11_odds_34 : decode cX11_odds 34 = .ok (.getfield 12, 3) := by decide +kernel
theorem dX11_odds_37 : decode cX11_odds 37 = .ok (.iconst 4, 1) := by decide +kernel
theorem dX11_odds_38 : decode cX11_odds 38 = .ok (.invokevirtual 111, 3) := by decide +kernel
theorem dX11_odds_41 : decode cX11_odds 41 = .ok (.ireturn, 1) := by decide +kernel
theorem dX11_odds_42 : decode cX11_odds 42 = .ok (.aload_n 0, 1) := by decide +kernel
theorem dX11_odds_43 : decode cX11_odds 43 = .ok (.getfield 12, 3) := by decide +kernel
theorem dX11_odds_46 : decode cX11_odds 46 = .ok (.aload_n 0, 1) := by decide +kernel
theorem dX11_odds_47 : decode cX11_odds 47 = .ok (.getfield 76, 3) := by decide +kernel
theorem dX11_odds_50 : decode cX11_odds 50 = .ok (.iload_n 1, 1) := by decide +kernel
theorem dX11_odds_51 : decode cX11_odds 51 = .ok (.iload_n 2, 1) := by decide +kernel
theorem dX11_odds_52 : decode cX11_odds 52 = .ok (.invokevirtual 461, 3) := by decide +kernel
theorem dX11_odds_55 : decode cX11_odds 55 = .ok (.iload_n 3, 1) := by decide +kernel
theorem dX11_odds_56 : decode cX11_odds 56 = .ok (.invokevirtual 464, 3) := by decide +kernel
theorem dX11_odds_59 : decode cX11_odds 59 = .ok (.iload_n 3, 1) := by decide +kernel
theorem dX11_odds_60 : decode cX11_odds 60 = .ok (.ireturn, 1) := by decide +kernel
theorem dX11_asked_0 : decode cX11_asked 0 = .ok (.aload_n 0, 1) := by decide +kernel
theorem dX11_asked_1 : decode cX11_asked 1 = .ok (.getfield 12, 3) := by decide +kernel
theorem dX11_asked_4 : decode cX11_asked 4 = .ok (.getfield 467, 3) := by decide +kernel
theorem dX11_asked_7 : decode cX11_asked 7 = .ok (.ireturn, 1) := by decide +kernel
theorem dX11_upper_0 : decode cX11_upper 0 = .ok (.aload_n 0, 1) := by decide +kernel
theorem dX11_upper_1 : decode cX11_upper 1 = .ok (.getfield 12, 3) := by decide +kernel
theorem dX11_upper_4 : decode cX11_upper 4 = .ok (.getfield 470, 3) := by decide +kernel
theorem dX11_upper_7 : decode cX11_upper 7 = .ok (.lreturn, 1) := by decide +kernel
theorem dX11_lower_0 : decode cX11_lower 0 = .ok (.aload_n 0, 1) := by decide +kernel
theorem dX11_lower_1 : decode cX11_lower 1 = .ok (.getfield 12, 3) := by decide +kernel
theorem dX11_lower_4 : decode cX11_lower 4 = .ok (.getfield 473, 3) := by decide +kernel
theorem dX11_lower_7 : decode cX11_lower 7 = .ok (.lreturn, 1) := by decide +kernel
theorem dX11_count_0 : decode cX11_count 0 = .ok (.iload_n 1, 1) := by decide +kernel
theorem dX11_count_1 : decode cX11_count 1 = .ok (.tableswitch 126 0 9 #[55, 63, 71, 79, 84, 89, 94, 102, 110, 118], 55) := by decide +kernel
theorem dX11_count_56 : decode cX11_count 56 = .ok (.aload_n 0, 1) := by decide +kernel
theorem dX11_count_57 : decode cX11_count 57 = .ok (.getfield 38, 3) := by decide +kernel
theorem dX11_count_60 : decode cX11_count 60 = .ok (.getfield 389, 3) := by decide +kernel
theorem dX11_count_63 : decode cX11_count 63 = .ok (.ireturn, 1) := by decide +kernel
theorem dX11_count_64 : decode cX11_count 64 = .ok (.aload_n 0, 1) := by decide +kernel
theorem dX11_count_65 : decode cX11_count 65 = .ok (.getfield 38, 3) := by decide +kernel
theorem dX11_count_68 : decode cX11_count 68 = .ok (.getfield 170, 3) := by decide +kernel
theorem dX11_count_71 : decode cX11_count 71 = .ok (.ireturn, 1) := by decide +kernel
theorem dX11_count_72 : decode cX11_count 72 = .ok (.aload_n 0, 1) := by decide +kernel
theorem dX11_count_73 : decode cX11_count 73 = .ok (.getfield 38, 3) := by decide +kernel
theorem dX11_count_76 : decode cX11_count 76 = .ok (.getfield 167, 3) := by decide +kernel
theorem dX11_count_79 : decode cX11_count 79 = .ok (.ireturn, 1) := by decide +kernel
theorem dX11_count_80 : decode cX11_count 80 = .ok (.aload_n 0, 1) := by decide +kernel
theorem dX11_count_81 : decode cX11_count 81 = .ok (.getfield 213, 3) := by decide +kernel
theorem dX11_count_84 : decode cX11_count 84 = .ok (.ireturn, 1) := by decide +kernel
theorem dX11_count_85 : decode cX11_count 85 = .ok (.aload_n 0, 1) := by decide +kernel
theorem dX11_count_86 : decode cX11_count 86 = .ok (.invokevirtual 476, 3) := by decide +kernel
theorem dX11_count_89 : decode cX11_count 89 = .ok (.ireturn, 1) := by decide +kernel
theorem dX11_count_90 : decode cX11_count 90 = .ok (.aload_n 0, 1) := by decide +kernel
theorem dX11_count_91 : decode cX11_count 91 = .ok (.invokevirtual 479, 3) := by decide +kernel
theorem dX11_count_94 : decode cX11_count 94 = .ok (.ireturn, 1) := by decide +kernel
theorem dX11_count_95 : decode cX11_count 95 = .ok (.aload_n 0, 1) := by decide +kernel
theorem dX11_count_96 : decode cX11_count 96 = .ok (.getfield 76, 3) := by decide +kernel
theorem dX11_count_99 : decode cX11_count 99 = .ok (.getfield 408, 3) := by decide +kernel
theorem dX11_count_102 : decode cX11_count 102 = .ok (.ireturn, 1) := by decide +kernel
theorem dX11_count_103 : decode cX11_count 103 = .ok (.aload_n 0, 1) := by decide +kernel
theorem dX11_count_104 : decode cX11_count 104 = .ok (.getfield 76, 3) := by decide +kernel
theorem dX11_count_107 : decode cX11_count 107 = .ok (.getfield 421, 3) := by decide +kernel
theorem dX11_count_110 : decode cX11_count 110 = .ok (.ireturn, 1) := by decide +kernel
theorem dX11_count_111 : decode cX11_count 111 = .ok (.aload_n 0, 1) := by decide +kernel
theorem dX11_count_112 : decode cX11_count 112 = .ok (.getfield 18, 3) := by decide +kernel
theorem dX11_count_115 : decode cX11_count 115 = .ok (.invokestatic 482, 3) := by decide +kernel
theorem dX11_count_118 : decode cX11_count 118 = .ok (.ireturn, 1) := by decide +kernel
theorem dX11_count_119 : decode cX11_count 119 = .ok (.aload_n 0, 1) := by decide +kernel
theorem dX11_count_120 : decode cX11_count 120 = .ok (.getfield 25, 3) := by decide +kernel
theorem dX11_count_123 : decode cX11_count 123 = .ok (.invokestatic 482, 3) := by decide +kernel
theorem dX11_count_126 : decode cX11_count 126 = .ok (.ireturn, 1) := by decide +kernel
theorem dX11_count_127 : decode cX11_count 127 = .ok (.iconst (-1), 1) := by decide +kernel
theorem dX11_count_128 : decode cX11_count 128 = .ok (.ireturn, 1) := by decide +kernel
theorem dX11_finding_0 : decode cX11_finding 0 = .ok (.aload_n 0, 1) := by decide +kernel
theorem dX11_finding_1 : decode cX11_finding 1 = .ok (.getfield 12, 3) := by decide +kernel
theorem dX11_finding_4 : decode cX11_finding 4 = .ok (.getfield 485, 3) := by decide +kernel
theorem dX11_finding_7 : decode cX11_finding 7 = .ok (.ireturn, 1) := by decide +kernel
theorem dX11_findings_0 : decode cX11_findings 0 = .ok (.iload_n 1, 1) := by decide +kernel
theorem dX11_findings_1 : decode cX11_findings 1 = .ok (.iconst 1, 1) := by decide +kernel
theorem dX11_findings_2 : decode cX11_findings 2 = .ok (.if_icmp .lt 8, 3) := by decide +kernel
theorem dX11_findings_5 : decode cX11_findings 5 = .ok (.iload_n 1, 1) := by decide +kernel
theorem dX11_findings_6 : decode cX11_findings 6 = .ok (.iconst 5, 1) := by decide +kernel
theorem dX11_findings_7 : decode cX11_findings 7 = .ok (.if_icmp .le 7, 3) := by decide +kernel
theorem dX11_findings_10 : decode cX11_findings 10 = .ok (.iconst (-1), 1) := by decide +kernel
theorem dX11_findings_11 : decode cX11_findings 11 = .ok (.goto 12, 3) := by decide +kernel
theorem dX11_findings_14 : decode cX11_findings 14 = .ok (.aload_n 0, 1) := by decide +kernel
theorem dX11_findings_15 : decode cX11_findings 15 = .ok (.getfield 12, 3) := by decide +kernel
theorem dX11_findings_18 : decode cX11_findings 18 = .ok (.getfield 488, 3) := by decide +kernel
theorem dX11_findings_21 : decode cX11_findings 21 = .ok (.iload_n 1, 1) := by decide +kernel
theorem dX11_findings_22 : decode cX11_findings 22 = .ok (.iaload, 1) := by decide +kernel
theorem dX11_findings_23 : decode cX11_findings 23 = .ok (.ireturn, 1) := by decide +kernel
theorem dX11_digest_0 : decode cX11_digest 0 = .ok (.ldc2_w 491, 3) := by decide +kernel
theorem dX11_digest_3 : decode cX11_digest 3 = .ok (.lstore_n 1, 1) := by decide +kernel
theorem dX11_digest_4 : decode cX11_digest 4 = .ok (.iconst 0, 1) := by decide +kernel
theorem dX11_digest_5 : decode cX11_digest 5 = .ok (.istore_n 3, 1) := by decide +kernel
theorem dX11_digest_6 : decode cX11_digest 6 = .ok (.iload_n 3, 1) := by decide +kernel
theorem dX11_digest_7 : decode cX11_digest 7 = .ok (.bipush 9, 2) := by decide +kernel
theorem dX11_digest_9 : decode cX11_digest 9 = .ok (.if_icmp .gt 20, 3) := by decide +kernel
theorem dX11_digest_12 : decode cX11_digest 12 = .ok (.lload_n 1, 1) := by decide +kernel
theorem dX11_digest_13 : decode cX11_digest 13 = .ok (.aload_n 0, 1) := by decide +kernel
theorem dX11_digest_14 : decode cX11_digest 14 = .ok (.iload_n 3, 1) := by decide +kernel
theorem dX11_digest_15 : decode cX11_digest 15 = .ok (.invokevirtual 493, 3) := by decide +kernel
theorem dX11_digest_18 : decode cX11_digest 18 = .ok (.i2l, 1) := by decide +kernel
theorem dX11_digest_19 : decode cX11_digest 19 = .ok (.invokestatic 496, 3) := by decide +kernel
theorem dX11_digest_22 : decode cX11_digest 22 = .ok (.lstore_n 1, 1) := by decide +kernel
theorem dX11_digest_23 : decode cX11_digest 23 = .ok (.iinc 3 1, 3) := by decide +kernel
theorem dX11_digest_26 : decode cX11_digest 26 = .ok (.goto (-20), 3) := by decide +kernel
theorem dX11_digest_29 : decode cX11_digest 29 = .ok (.lload_n 1, 1) := by decide +kernel
theorem dX11_digest_30 : decode cX11_digest 30 = .ok (.aload_n 0, 1) := by decide +kernel
theorem dX11_digest_31 : decode cX11_digest 31 = .ok (.getfield 55, 3) := by decide +kernel
theorem dX11_digest_34 : decode cX11_digest 34 = .ok (.i2l, 1) := by decide +kernel
theorem dX11_digest_35 : decode cX11_digest 35 = .ok (.invokestatic 496, 3) := by decide +kernel
theorem dX11_digest_38 : decode cX11_digest 38 = .ok (.aload_n 0, 1) := by decide +kernel
theorem dX11_digest_39 : decode cX11_digest 39 = .ok (.getfield 48, 3) := by decide +kernel
theorem dX11_digest_42 : decode cX11_digest 42 = .ok (.invokevirtual 201, 3) := by decide +kernel
theorem dX11_digest_45 : decode cX11_digest 45 = .ok (.i2l, 1) := by decide +kernel
theorem dX11_digest_46 : decode cX11_digest 46 = .ok (.invokestatic 496, 3) := by decide +kernel
theorem dX11_digest_49 : decode cX11_digest 49 = .ok (.lstore_n 1, 1) := by decide +kernel
theorem dX11_digest_50 : decode cX11_digest 50 = .ok (.aload_n 0, 1) := by decide +kernel
theorem dX11_digest_51 : decode cX11_digest 51 = .ok (.getfield 38, 3) := by decide +kernel
theorem dX11_digest_54 : decode cX11_digest 54 = .ok (.lload_n 1, 1) := by decide +kernel
theorem dX11_digest_55 : decode cX11_digest 55 = .ok (.invokevirtual 500, 3) := by decide +kernel
theorem dX11_digest_58 : decode cX11_digest 58 = .ok (.lstore_n 1, 1) := by decide +kernel
theorem dX11_digest_59 : decode cX11_digest 59 = .ok (.iconst 0, 1) := by decide +kernel
theorem dX11_digest_60 : decode cX11_digest 60 = .ok (.istore_n 3, 1) := by decide +kernel
theorem dX11_digest_61 : decode cX11_digest 61 = .ok (.iload_n 3, 1) := by decide +kernel
theorem dX11_digest_62 : decode cX11_digest 62 = .ok (.aload_n 0, 1) := by decide +kernel
theorem dX11_digest_63 : decode cX11_digest 63 = .ok (.getfield 213, 3) := by decide +kernel
theorem dX11_digest_66 : decode cX11_digest 66 = .ok (.if_icmp .ge 27, 3) := by decide +kernel
theorem dX11_digest_69 : decode cX11_digest 69 = .ok (.aload_n 0, 1) := by decide +kernel
theorem dX11_digest_70 : decode cX11_digest 70 = .ok (.getfield 61, 3) := by decide +kernel
theorem dX11_digest_73 : decode cX11_digest 73 = .ok (.iload_n 3, 1) := by decide +kernel
theorem dX11_digest_74 : decode cX11_digest 74 = .ok (.aaload, 1) := by decide +kernel
theorem dX11_digest_75 : decode cX11_digest 75 = .ok (.lload_n 1, 1) := by decide +kernel
theorem dX11_digest_76 : decode cX11_digest 76 = .ok (.aload_n 0, 1) := by decide +kernel
theorem dX11_digest_77 : decode cX11_digest 77 = .ok (.getfield 38, 3) := by decide +kernel
theorem dX11_digest_80 : decode cX11_digest 80 = .ok (.getfield 167, 3) := by decide +kernel
theorem dX11_digest_83 : decode cX11_digest 83 = .ok (.invokevirtual 504, 3) := by decide +kernel
theorem dX11_digest_86 : decode cX11_digest 86 = .ok (.lstore_n 1, 1) := by decide +kernel
theorem dX11_digest_87 : decode cX11_digest 87 = .ok (.iinc 3 1, 3) := by decide +kernel
theorem dX11_digest_90 : decode cX11_digest 90 = .ok (.goto (-29), 3) := by decide +kernel
theorem dX11_digest_93 : decode cX11_digest 93 = .ok (.iconst 0, 1) := by decide +kernel
theorem dX11_digest_94 : decode cX11_digest 94 = .ok (.istore_n 3, 1) := by decide +kernel
theorem dX11_digest_95 : decode cX11_digest 95 = .ok (.iload_n 3, 1) := by decide +kernel
theorem dX11_digest_96 : decode cX11_digest 96 = .ok (.bipush 6, 2) := by decide +kernel
theorem dX11_digest_98 : decode cX11_digest 98 = .ok (.if_icmp .ge 20, 3) := by decide +kernel
theorem dX11_digest_101 : decode cX11_digest 101 = .ok (.aload_n 0, 1) := by decide +kernel
theorem dX11_digest_102 : decode cX11_digest 102 = .ok (.getfield 68, 3) := by decide +kernel
theorem dX11_digest_105 : decode cX11_digest 105 = .ok (.iload_n 3, 1) := by decide +kernel
theorem dX11_digest_106 : decode cX11_digest 106 = .ok (.aaload, 1) := by decide +kernel
theorem dX11_digest_107 : decode cX11_digest 107 = .ok (.lload_n 1, 1) := by decide +kernel
theorem dX11_digest_108 : decode cX11_digest 108 = .ok (.invokevirtual 507, 3) := by decide +kernel
theorem dX11_digest_111 : decode cX11_digest 111 = .ok (.lstore_n 1, 1) := by decide +kernel
theorem dX11_digest_112 : decode cX11_digest 112 = .ok (.iinc 3 1, 3) := by decide +kernel
theorem dX11_digest_115 : decode cX11_digest 115 = .ok (.goto (-20), 3) := by decide +kernel
theorem dX11_digest_118 : decode cX11_digest 118 = .ok (.aload_n 0, 1) := by decide +kernel
theorem dX11_digest_119 : decode cX11_digest 119 = .ok (.getfield 76, 3) := by decide +kernel
theorem dX11_digest_122 : decode cX11_digest 122 = .ok (.lload_n 1, 1) := by decide +kernel
theorem dX11_digest_123 : decode cX11_digest 123 = .ok (.invokevirtual 508, 3) := by decide +kernel
theorem dX11_digest_126 : decode cX11_digest 126 = .ok (.lstore_n 1, 1) := by decide +kernel
theorem dX11_digest_127 : decode cX11_digest 127 = .ok (.iconst 0, 1) := by decide +kernel
theorem dX11_digest_128 : decode cX11_digest 128 = .ok (.istore_n 3, 1) := by decide +kernel
theorem dX11_digest_129 : decode cX11_digest 129 = .ok (.iload_n 3, 1) := by decide +kernel
theorem dX11_digest_130 : decode cX11_digest 130 = .ok (.bipush 6, 2) := by decide +kernel
theorem dX11_digest_132 : decode cX11_digest 132 = .ok (.if_icmp .ge 20, 3) := by decide +kernel
theorem dX11_digest_135 : decode cX11_digest 135 = .ok (.aload_n 0, 1) := by decide +kernel
theorem dX11_digest_136 : decode cX11_digest 136 = .ok (.getfield 18, 3) := by decide +kernel
theorem dX11_digest_139 : decode cX11_digest 139 = .ok (.iload_n 3, 1) := by decide +kernel
theorem dX11_digest_140 : decode cX11_digest 140 = .ok (.aaload, 1) := by decide +kernel
theorem dX11_digest_141 : decode cX11_digest 141 = .ok (.lload_n 1, 1) := by decide +kernel
theorem dX11_digest_142 : decode cX11_digest 142 = .ok (.invokevirtual 509, 3) := by decide +kernel
theorem dX11_digest_145 : decode cX11_digest 145 = .ok (.lstore_n 1, 1) := by decide +kernel
theorem dX11_digest_146 : decode cX11_digest 146 = .ok (.iinc 3 1, 3) := by decide +kernel
theorem dX11_digest_149 : decode cX11_digest 149 = .ok (.goto (-20), 3) := by decide +kernel
theorem dX11_digest_152 : decode cX11_digest 152 = .ok (.iconst 0, 1) := by decide +kernel
theorem dX11_digest_153 : decode cX11_digest 153 = .ok (.istore_n 3, 1) := by decide +kernel
theorem dX11_digest_154 : decode cX11_digest 154 = .ok (.iload_n 3, 1) := by decide +kernel
theorem dX11_digest_155 : decode cX11_digest 155 = .ok (.iconst 4, 1) := by decide +kernel
theorem dX11_digest_156 : decode cX11_digest 156 = .ok (.if_icmp .ge 20, 3) := by decide +kernel
theorem dX11_digest_159 : decode cX11_digest 159 = .ok (.aload_n 0, 1) := by decide +kernel
theorem dX11_digest_160 : decode cX11_digest 160 = .ok (.getfield 25, 3) := by decide +kernel
theorem dX11_digest_163 : decode cX11_digest 163 = .ok (.iload_n 3, 1) := by decide +kernel
theorem dX11_digest_164 : decode cX11_digest 164 = .ok (.aaload, 1) := by decide +kernel
theorem dX11_digest_165 : decode cX11_digest 165 = .ok (.lload_n 1, 1) := by decide +kernel
theorem dX11_digest_166 : decode cX11_digest 166 = .ok (.invokevirtual 509, 3) := by decide +kernel
theorem dX11_digest_169 : decode cX11_digest 169 = .ok (.lstore_n 1, 1) := by decide +kernel
theorem dX11_digest_170 : decode cX11_digest 170 = .ok (.iinc 3 1, 3) := by decide +kernel
theorem dX11_digest_173 : decode cX11_digest 173 = .ok (.goto (-19), 3) := by decide +kernel
theorem dX11_digest_176 : decode cX11_digest 176 = .ok (.lload_n 1, 1) := by decide +kernel
theorem dX11_digest_177 : decode cX11_digest 177 = .ok (.lreturn, 1) := by decide +kernel
theorem dX11_isRow_0 : decode cX11_isRow 0 = .ok (.iload_n 0, 1) := by decide +kernel
theorem dX11_isRow_1 : decode cX11_isRow 1 = .ok (.ifCond .lt 13, 3) := by decide +kernel
theorem dX11_isRow_4 : decode cX11_isRow 4 = .ok (.iload_n 0, 1) := by decide +kernel
theorem dX11_isRow_5 : decode cX11_isRow 5 = .ok (.bipush 6, 2) := by decide +kernel
theorem dX11_isRow_7 : decode cX11_isRow 7 = .ok (.if_icmp .ge 7, 3) := by decide +kernel
theorem dX11_isRow_10 : decode cX11_isRow 10 = .ok (.iconst 1, 1) := by decide +kernel
theorem dX11_isRow_11 : decode cX11_isRow 11 = .ok (.goto 4, 3) := by decide +kernel
theorem dX11_isRow_14 : decode cX11_isRow 14 = .ok (.iconst 0, 1) := by decide +kernel
theorem dX11_isRow_15 : decode cX11_isRow 15 = .ok (.ireturn, 1) := by decide +kernel
theorem dX11_isText_0 : decode cX11_isText 0 = .ok (.iload_n 0, 1) := by decide +kernel
theorem dX11_isText_1 : decode cX11_isText 1 = .ok (.ifCond .lt 12, 3) := by decide +kernel
theorem dX11_isText_4 : decode cX11_isText 4 = .ok (.iload_n 0, 1) := by decide +kernel
theorem dX11_isText_5 : decode cX11_isText 5 = .ok (.iconst 4, 1) := by decide +kernel
theorem dX11_isText_6 : decode cX11_isText 6 = .ok (.if_icmp .ge 7, 3) := by decide +kernel
theorem dX11_isText_9 : decode cX11_isText 9 = .ok (.iconst 1, 1) := by decide +kernel
theorem dX11_isText_10 : decode cX11_isText 10 = .ok (.goto 4, 3) := by decide +kernel
theorem dX11_isText_13 : decode cX11_isText 13 = .ok (.iconst 0, 1) := by decide +kernel
theorem dX11_isText_14 : decode cX11_isText 14 = .ok (.ireturn, 1) := by decide +kernel
theorem dX11_isBeast_0 : decode cX11_isBeast 0 = .ok (.iload_n 0, 1) := by decide +kernel
theorem dX11_isBeast_1 : decode cX11_isBeast 1 = .ok (.ifCond .lt 13, 3) := by decide +kernel
theorem dX11_isBeast_4 : decode cX11_isBeast 4 = .ok (.iload_n 0, 1) := by decide +kernel
theorem dX11_isBeast_5 : decode cX11_isBeast 5 = .ok (.bipush 6, 2) := by decide +kernel
theorem dX11_isBeast_7 : decode cX11_isBeast 7 = .ok (.if_icmp .ge 7, 3) := by decide +kernel
theorem dX11_isBeast_10 : decode cX11_isBeast 10 = .ok (.iconst 1, 1) := by decide +kernel
theorem dX11_isBeast_11 : decode cX11_isBeast 11 = .ok (.goto 4, 3) := by decide +kernel
theorem dX11_isBeast_14 : decode cX11_isBeast 14 = .ok (.iconst 0, 1) := by decide +kernel
theorem dX11_isBeast_15 : decode cX11_isBeast 15 = .ok (.ireturn, 1) := by decide +kernel
theorem dX11_isWeight_0 : decode cX11_isWeight 0 = .ok (.iload_n 0, 1) := by decide +kernel
theorem dX11_isWeight_1 : decode cX11_isWeight 1 = .ok (.ifCond .lt 13, 3) := by decide +kernel
theorem dX11_isWeight_4 : decode cX11_isWeight 4 = .ok (.iload_n 0, 1) := by decide +kernel
theorem dX11_isWeight_5 : decode cX11_isWeight 5 = .ok (.bipush 9, 2) := by decide +kernel
theorem dX11_isWeight_7 : decode cX11_isWeight 7 = .ok (.if_icmp .gt 7, 3) := by decide +kernel
theorem dX11_isWeight_10 : decode cX11_isWeight 10 = .ok (.iconst 1, 1) := by decide +kernel
theorem dX11_isWeight_11 : decode cX11_isWeight 11 = .ok (.goto 4, 3) := by decide +kernel
theorem dX11_isWeight_14 : decode cX11_isWeight 14 = .ok (.iconst 0, 1) := by decide +kernel
theorem dX11_isWeight_15 : decode cX11_isWeight 15 = .ok (.ireturn, 1) := by decide +kernel
theorem dX11_isShift_0 : decode cX11_isShift 0 = .ok (.iload_n 0, 1) := by decide +kernel
theorem dX11_isShift_1 : decode cX11_isShift 1 = .ok (.bipush (-3), 2) := by decide +kernel
theorem dX11_isShift_3 : decode cX11_isShift 3 = .ok (.if_icmp .lt 12, 3) := by decide +kernel
theorem dX11_isShift_6 : decode cX11_isShift 6 = .ok (.iload_n 0, 1) := by decide +kernel
theorem dX11_isShift_7 : decode cX11_isShift 7 = .ok (.iconst 3, 1) := by decide +kernel
theorem dX11_isShift_8 : decode cX11_isShift 8 = .ok (.if_icmp .gt 7, 3) := by decide +kernel
theorem dX11_isShift_11 : decode cX11_isShift 11 = .ok (.iconst 1, 1) := by decide +kernel
theorem dX11_isShift_12 : decode cX11_isShift 12 = .ok (.goto 4, 3) := by decide +kernel
theorem dX11_isShift_15 : decode cX11_isShift 15 = .ok (.iconst 0, 1) := by decide +kernel
theorem dX11_isShift_16 : decode cX11_isShift 16 = .ok (.ireturn, 1) := by decide +kernel
theorem dX11_isJoint_0 : decode cX11_isJoint 0 = .ok (.iload_n 1, 1) := by decide +kernel
theorem dX11_isJoint_1 : decode cX11_isJoint 1 = .ok (.ifCond .lt 18, 3) := by decide +kernel
theorem dX11_isJoint_4 : decode cX11_isJoint 4 = .ok (.iload_n 1, 1) := by decide +kernel
theorem dX11_isJoint_5 : decode cX11_isJoint 5 = .ok (.aload_n 0, 1) := by decide +kernel
theorem dX11_isJoint_6 : decode cX11_isJoint 6 = .ok (.getfield 38, 3) := by decide +kernel
theorem dX11_isJoint_9 : decode cX11_isJoint 9 = .ok (.getfield 167, 3) := by decide +kernel
theorem dX11_isJoint_12 : decode cX11_isJoint 12 = .ok (.if_icmp .ge 7, 3) := by decide +kernel
theorem dX11_isJoint_15 : decode cX11_isJoint 15 = .ok (.iconst 1, 1) := by decide +kernel
theorem dX11_isJoint_16 : decode cX11_isJoint 16 = .ok (.goto 4, 3) := by decide +kernel
theorem dX11_isJoint_19 : decode cX11_isJoint 19 = .ok (.iconst 0, 1) := by decide +kernel
theorem dX11_isJoint_20 : decode cX11_isJoint 20 = .ok (.ireturn, 1) := by decide +kernel
theorem dX11_isPose_0 : decode cX11_isPose 0 = .ok (.iload_n 1, 1) := by decide +kernel
theorem dX11_isPose_1 : decode cX11_isPose 1 = .ok (.ifCond .lt 15, 3) := by decide +kernel
theorem dX11_isPose_4 : decode cX11_isPose 4 = .ok (.iload_n 1, 1) := by decide +kernel
theorem dX11_isPose_5 : decode cX11_isPose 5 = .ok (.aload_n 0, 1) := by decide +kernel
theorem dX11_isPose_6 : decode cX11_isPose 6 = .ok (.getfield 213, 3) := by decide +kernel
theorem dX11_isPose_9 : decode cX11_isPose 9 = .ok (.if_icmp .ge 7, 3) := by decide +kernel
theorem dX11_isPose_12 : decode cX11_isPose 12 = .ok (.iconst 1, 1) := by decide +kernel
theorem dX11_isPose_13 : decode cX11_isPose 13 = .ok (.goto 4, 3) := by decide +kernel
theorem dX11_isPose_16 : decode cX11_isPose 16 = .ok (.iconst 0, 1) := by decide +kernel
theorem dX11_isPose_17 : decode cX11_isPose 17 = .ok (.ireturn, 1) := by decide +kernel
theorem dX11_isLooker_0 : decode cX11_isLooker 0 = .ok (.iload_n 1, 1) := by decide +kernel
theorem dX11_isLooker_1 : decode cX11_isLooker 1 = .ok (.ifCond .lt 18, 3) := by decide +kernel
theorem dX11_isLooker_4 : decode cX11_isLooker 4 = .ok (.iload_n 1, 1) := by decide +kernel
theorem dX11_isLooker_5 : decode cX11_isLooker 5 = .ok (.aload_n 0, 1) := by decide +kernel
theorem dX11_isLooker_6 : decode cX11_isLooker 6 = .ok (.getfield 76, 3) := by decide +kernel
theorem dX11_isLooker_9 : decode cX11_isLooker 9 = .ok (.getfield 408, 3) := by decide +kernel
theorem dX11_isLooker_12 : decode cX11_isLooker 12 = .ok (.if_icmp .ge 7, 3) := by decide +kernel
theorem dX11_isLooker_15 : decode cX11_isLooker 15 = .ok (.iconst 1, 1) := by decide +kernel
theorem dX11_isLooker_16 : decode cX11_isLooker 16 = .ok (.goto 4, 3) := by decide +kernel
theorem dX11_isLooker_19 : decode cX11_isLooker 19 = .ok (.iconst 0, 1) := by decide +kernel
theorem dX11_isLooker_20 : decode cX11_isLooker 20 = .ok (.ireturn, 1) := by decide +kernel
theorem dX11_shadowFinding_0 : decode cX11_shadowFinding 0 = .ok (.aload_n 0, 1) := by decide +kernel
theorem dX11_shadowFinding_1 : decode cX11_shadowFinding 1 = .ok (.invokevirtual 119, 3) := by decide +kernel
theorem dX11_shadowFinding_4 : decode cX11_shadowFinding 4 = .ok (.ifCond .eq 10, 3) := by decide +kernel
theorem dX11_shadowFinding_7 : decode cX11_shadowFinding 7 = .ok (.aload_n 1, 1) := by decide +kernel
theorem dX11_shadowFinding_8 : decode cX11_shadowFinding 8 = .ok (.invokevirtual 119, 3) := by decide +kernel
theorem dX11_shadowFinding_11 : decode cX11_shadowFinding 11 = .ok (.ifCond .ne 5, 3) := by decide +kernel
theorem dX11_shadowFinding_14 : decode cX11_shadowFinding 14 = .ok (.iconst 1, 1) := by decide +kernel
theorem dX11_shadowFinding_15 : decode cX11_shadowFinding 15 = .ok (.ireturn, 1) := by decide +kernel
theorem dX11_shadowFinding_16 : decode cX11_shadowFinding 16 = .ok (.aload_n 0, 1) := by decide +kernel
theorem dX11_shadowFinding_17 : decode cX11_shadowFinding 17 = .ok (.getfield 146, 3) := by decide +kernel
theorem dX11_shadowFinding_20 : decode cX11_shadowFinding 20 = .ok (.bipush 10, 2) := by decide +kernel
theorem dX11_shadowFinding_22 : decode cX11_shadowFinding 22 = .ok (.if_icmp .ne 12, 3) := by decide +kernel
theorem dX11_shadowFinding_25 : decode cX11_shadowFinding 25 = .ok (.aload_n 1, 1) := by decide +kernel
theorem dX11_shadowFinding_26 : decode cX11_shadowFinding 26 = .ok (.getfield 146, 3) := by decide +kernel
theorem dX11_shadowFinding_29 : decode cX11_shadowFinding 29 = .ok (.bipush 10, 2) := by decide +kernel
theorem dX11_shadowFinding_31 : decode cX11_shadowFinding 31 = .ok (.if_icmp .eq 5, 3) := by decide +kernel
theorem dX11_shadowFinding_34 : decode cX11_shadowFinding 34 = .ok (.iconst 5, 1) := by decide +kernel
theorem dX11_shadowFinding_35 : decode cX11_shadowFinding 35 = .ok (.ireturn, 1) := by decide +kernel
theorem dX11_shadowFinding_36 : decode cX11_shadowFinding 36 = .ok (.aload_n 0, 1) := by decide +kernel
theorem dX11_shadowFinding_37 : decode cX11_shadowFinding 37 = .ok (.invokevirtual 510, 3) := by decide +kernel
theorem dX11_shadowFinding_40 : decode cX11_shadowFinding 40 = .ok (.ifCond .eq 14, 3) := by decide +kernel
theorem dX11_shadowFinding_43 : decode cX11_shadowFinding 43 = .ok (.aload_n 1, 1) := by decide +kernel
theorem dX11_shadowFinding_44 : decode cX11_shadowFinding 44 = .ok (.invokevirtual 510, 3) := by decide +kernel
theorem dX11_shadowFinding_47 : decode cX11_shadowFinding 47 = .ok (.ifCond .eq 7, 3) := by decide +kernel
theorem dX11_shadowFinding_50 : decode cX11_shadowFinding 50 = .ok (.iconst 0, 1) := by decide +kernel
theorem dX11_shadowFinding_51 : decode cX11_shadowFinding 51 = .ok (.goto 4, 3) := by decide +kernel
theorem dX11_shadowFinding_54 : decode cX11_shadowFinding 54 = .ok (.iconst 3, 1) := by decide +kernel
theorem dX11_shadowFinding_55 : decode cX11_shadowFinding 55 = .ok (.ireturn, 1) := by decide +kernel
theorem dX11_dropPoses_0 : decode cX11_dropPoses 0 = .ok (.aload_n 0, 1) := by decide +kernel
theorem dX11_dropPoses_1 : decode cX11_dropPoses 1 = .ok (.getfield 76, 3) := by decide +kernel
theorem dX11_dropPoses_4 : decode cX11_dropPoses 4 = .ok (.iload_n 1, 1) := by decide +kernel
theorem dX11_dropPoses_5 : decode cX11_dropPoses 5 = .ok (.invokevirtual 513, 3) := by decide +kernel
theorem dX11_dropPoses_8 : decode cX11_dropPoses 8 = .ok (.aload_n 0, 1) := by decide +kernel
theorem dX11_dropPoses_9 : decode cX11_dropPoses 9 = .ok (.iload_n 1, 1) := by decide +kernel
theorem dX11_dropPoses_10 : decode cX11_dropPoses 10 = .ok (.putfield 213, 3) := by decide +kernel
theorem dX11_dropPoses_13 : decode cX11_dropPoses 13 = .ok (.return_, 1) := by decide +kernel
theorem dX11_placeOf_0 : decode cX11_placeOf 0 = .ok (.aload_n 0, 1) := by decide +kernel
theorem dX11_placeOf_1 : decode cX11_placeOf 1 = .ok (.getfield 83, 3) := by decide +kernel
theorem dX11_placeOf_4 : decode cX11_placeOf 4 = .ok (.aload_n 0, 1) := by decide +kernel
theorem dX11_placeOf_5 : decode cX11_placeOf 5 = .ok (.getfield 38, 3) := by decide +kernel
theorem dX11_placeOf_8 : decode cX11_placeOf 8 = .ok (.aload_n 0, 1) := by decide +kernel
theorem dX11_placeOf_9 : decode cX11_placeOf 9 = .ok (.getfield 61, 3) := by decide +kernel
theorem dX11_placeOf_12 : decode cX11_placeOf 12 = .ok (.iload_n 1, 1) := by decide +kernel
theorem dX11_placeOf_13 : decode cX11_placeOf 13 = .ok (.aaload, 1) := by decide +kernel
theorem dX11_placeOf_14 : decode cX11_placeOf 14 = .ok (.getfield 253, 3) := by decide +kernel
theorem dX11_placeOf_17 : decode cX11_placeOf 17 = .ok (.invokevirtual 516, 3) := by decide +kernel
theorem dX11_placeOf_20 : decode cX11_placeOf 20 = .ok (.ireturn, 1) := by decide +kernel
theorem dX11_numberThrowingBy_0 : decode cX11_numberThrowingBy 0 = .ok (.aload_n 0, 1) := by decide +kernel
theorem dX11_numberThrowingBy_1 : decode cX11_numberThrowingBy 1 = .ok (.getfield 38, 3) := by decide +kernel
theorem dX11_numberThrowingBy_4 : decode cX11_numberThrowingBy 4 = .ok (.iconst (-1), 1) := by decide +kernel
theorem dX11_numberThrowingBy_5 : decode cX11_numberThrowingBy 5 = .ok (.aload_n 0, 1) := by decide +kernel
theorem dX11_numberThrowingBy_6 : decode cX11_numberThrowingBy 6 = .ok (.getfield 97, 3) := by decide +kernel
theorem dX11_numberThrowingBy_9 : decode cX11_numberThrowingBy 9 = .ok (.invokevirtual 519, 3) := by decide +kernel
theorem dX11_numberThrowingBy_12 : decode cX11_numberThrowingBy 12 = .ok (.pop, 1) := by decide +kernel
theorem dX11_numberThrowingBy_13 : decode cX11_numberThrowingBy 13 = .ok (.aload_n 1, 1) := by decide +kernel
theorem dX11_numberThrowingBy_14 : decode cX11_numberThrowingBy 14 = .ok (.aload_n 0, 1) := by decide +kernel
theorem dX11_numberThrowingBy_15 : decode cX11_numberThrowingBy 15 = .ok (.getfield 97, 3) := by decide +kernel
theorem dX11_numberThrowingBy_18 : decode cX11_numberThrowingBy 18 = .ok (.getfield 288, 3) := by decide +kernel
theorem dX11_numberThrowingBy_21 : decode cX11_numberThrowingBy 21 = .ok (.aload_n 0, 1) := by decide +kernel
theorem dX11_numberThrowingBy_22 : decode cX11_numberThrowingBy 22 = .ok (.getfield 97, 3) := by decide +kernel
theorem dX11_numberThrowingBy_25 : decode cX11_numberThrowingBy 25 = .ok (.getfield 292, 3) := by decide +kernel
theorem dX11_numberThrowingBy_28 : decode cX11_numberThrowingBy 28 = .ok (.aload_n 0, 1) := by decide +kernel
theorem dX11_numberThrowingBy_29 : decode cX11_numberThrowingBy 29 = .ok (.getfield 97, 3) := by decide +kernel
theorem dX11_numberThrowingBy_32 : decode cX11_numberThrowingBy 32 = .ok (.invokevirtual 330, 3) := by decide +kernel
theorem dX11_numberThrowingBy_35 : decode cX11_numberThrowingBy 35 = .ok (.aload_n 0, 1) := by decide +kernel
theorem dX11_numberThrowingBy_36 : decode cX11_numberThrowingBy 36 = .ok (.getfield 101, 3) := by decide +kernel
theorem dX11_numberThrowingBy_39 : decode cX11_numberThrowingBy 39 = .ok (.aload_n 0, 1) := by decide +kernel
theorem dX11_numberThrowingBy_40 : decode cX11_numberThrowingBy 40 = .ok (.getfield 97, 3) := by decide +kernel
theorem dX11_numberThrowingBy_43 : decode cX11_numberThrowingBy 43 = .ok (.invokevirtual 523, 3) := by decide +kernel
theorem dX11_numberThrowingBy_46 : decode cX11_numberThrowingBy 46 = .ok (.ifCond .ne 5, 3) := by decide +kernel
theorem dX11_numberThrowingBy_49 : decode cX11_numberThrowingBy 49 = .ok (.iconst 0, 1) := by decide +kernel
theorem dX11_numberThrowingBy_50 : decode cX11_numberThrowingBy 50 = .ok (.ireturn, 1) := by decide +kernel
theorem dX11_numberThrowingBy_51 : decode cX11_numberThrowingBy 51 = .ok (.aload_n 1, 1) := by decide +kernel
theorem dX11_numberThrowingBy_52 : decode cX11_numberThrowingBy 52 = .ok (.aload_n 0, 1) := by decide +kernel
theorem dX11_numberThrowingBy_53 : decode cX11_numberThrowingBy 53 = .ok (.getfield 104, 3) := by decide +kernel
theorem dX11_numberThrowingBy_56 : decode cX11_numberThrowingBy 56 = .ok (.getfield 288, 3) := by decide +kernel
theorem dX11_numberThrowingBy_59 : decode cX11_numberThrowingBy 59 = .ok (.aload_n 0, 1) := by decide +kernel
theorem dX11_numberThrowingBy_60 : decode cX11_numberThrowingBy 60 = .ok (.getfield 104, 3) := by decide +kernel
theorem dX11_numberThrowingBy_63 : decode cX11_numberThrowingBy 63 = .ok (.getfield 292, 3) := by decide +kernel
theorem dX11_numberThrowingBy_66 : decode cX11_numberThrowingBy 66 = .ok (.aload_n 0, 1) := by decide +kernel
theorem dX11_numberThrowingBy_67 : decode cX11_numberThrowingBy 67 = .ok (.getfield 97, 3) := by decide +kernel
theorem dX11_numberThrowingBy_70 : decode cX11_numberThrowingBy 70 = .ok (.invokevirtual 330, 3) := by decide +kernel
theorem dX11_numberThrowingBy_73 : decode cX11_numberThrowingBy 73 = .ok (.aload_n 0, 1) := by decide +kernel
theorem dX11_numberThrowingBy_74 : decode cX11_numberThrowingBy 74 = .ok (.getfield 97, 3) := by decide +kernel
theorem dX11_numberThrowingBy_77 : decode cX11_numberThrowingBy 77 = .ok (.aload_n 0, 1) := by decide +kernel
theorem dX11_numberThrowingBy_78 : decode cX11_numberThrowingBy 78 = .ok (.getfield 101, 3) := by decide +kernel
theorem dX11_numberThrowingBy_81 : decode cX11_numberThrowingBy 81 = .ok (.invokevirtual 523, 3) := by decide +kernel
theorem dX11_numberThrowingBy_84 : decode cX11_numberThrowingBy 84 = .ok (.ifCond .ne 5, 3) := by decide +kernel
theorem dX11_numberThrowingBy_87 : decode cX11_numberThrowingBy 87 = .ok (.iconst 0, 1) := by decide +kernel
theorem dX11_numberThrowingBy_88 : decode cX11_numberThrowingBy 88 = .ok (.ireturn, 1) := by decide +kernel
theorem dX11_numberThrowingBy_89 : decode cX11_numberThrowingBy 89 = .ok (.aload_n 0, 1) := by decide +kernel
theorem dX11_numberThrowingBy_90 : decode cX11_numberThrowingBy 90 = .ok (.getfield 83, 3) := by decide +kernel
theorem dX11_numberThrowingBy_93 : decode cX11_numberThrowingBy 93 = .ok (.aload_n 0, 1) := by decide +kernel
theorem dX11_numberThrowingBy_94 : decode cX11_numberThrowingBy 94 = .ok (.getfield 38, 3) := by decide +kernel
theorem dX11_numberThrowingBy_97 : decode cX11_numberThrowingBy 97 = .ok (.aload_n 1, 1) := by decide +kernel
theorem dX11_numberThrowingBy_98 : decode cX11_numberThrowingBy 98 = .ok (.iconst (-1), 1) := by decide +kernel
theorem dX11_numberThrowingBy_99 : decode cX11_numberThrowingBy 99 = .ok (.invokevirtual 311, 3) := by decide +kernel
theorem dX11_numberThrowingBy_102 : decode cX11_numberThrowingBy 102 = .ok (.aload_n 0, 1) := by decide +kernel
theorem dX11_numberThrowingBy_103 : decode cX11_numberThrowingBy 103 = .ok (.getfield 83, 3) := by decide +kernel
theorem dX11_numberThrowingBy_106 : decode cX11_numberThrowingBy 106 = .ok (.aload_n 0, 1) := by decide +kernel
theorem dX11_numberThrowingBy_107 : decode cX11_numberThrowingBy 107 = .ok (.getfield 101, 3) := by decide +kernel
theorem dX11_numberThrowingBy_110 : decode cX11_numberThrowingBy 110 = .ok (.aload_n 0, 1) := by decide +kernel
theorem dX11_numberThrowingBy_111 : decode cX11_numberThrowingBy 111 = .ok (.getfield 55, 3) := by decide +kernel
theorem dX11_numberThrowingBy_114 : decode cX11_numberThrowingBy 114 = .ok (.invokevirtual 343, 3) := by decide +kernel
theorem dX11_numberThrowingBy_117 : decode cX11_numberThrowingBy 117 = .ok (.ireturn, 1) := by decide +kernel
theorem dX11_look_0 : decode cX11_look 0 = .ok (.aload_n 0, 1) := by decide +kernel
theorem dX11_look_1 : decode cX11_look 1 = .ok (.getfield 61, 3) := by decide +kernel
theorem dX11_look_4 : decode cX11_look 4 = .ok (.iload_n 1, 1) := by decide +kernel
theorem dX11_look_5 : decode cX11_look 5 = .ok (.aaload, 1) := by decide +kernel
theorem dX11_look_6 : decode cX11_look 6 = .ok (.aload_n 0, 1) := by decide +kernel
theorem dX11_look_7 : decode cX11_look 7 = .ok (.getfield 48, 3) := by decide +kernel
theorem dX11_look_10 : decode cX11_look 10 = .ok (.aload_n 0, 1) := by decide +kernel
theorem dX11_look_11 : decode cX11_look 11 = .ok (.getfield 97, 3) := by decide +kernel
theorem dX11_look_14 : decode cX11_look 14 = .ok (.invokevirtual 268, 3) := by decide +kernel
theorem dX11_look_17 : decode cX11_look 17 = .ok (.aload_n 0, 1) := by decide +kernel
theorem dX11_look_18 : decode cX11_look 18 = .ok (.getfield 76, 3) := by decide +kernel
theorem dX11_look_21 : decode cX11_look 21 = .ok (.aload_n 0, 1) := by decide +kernel
theorem dX11_look_22 : decode cX11_look 22 = .ok (.getfield 68, 3) := by decide +kernel
theorem dX11_look_25 : decode cX11_look 25 = .ok (.aload_n 0, 1) := by decide +kernel
theorem dX11_look_26 : decode cX11_look 26 = .ok (.getfield 97, 3) := by decide +kernel
theorem dX11_look_29 : decode cX11_look 29 = .ok (.aload_n 0, 1) := by decide +kernel
theorem dX11_look_30 : decode cX11_look 30 = .ok (.getfield 61, 3) := by decide +kernel
theorem dX11_look_33 : decode cX11_look 33 = .ok (.iload_n 1, 1) := by decide +kernel
theorem dX11_look_34 : decode cX11_look 34 = .ok (.aaload, 1) := by decide +kernel
theorem dX11_look_35 : decode cX11_look 35 = .ok (.getfield 224, 3) := by decide +kernel
theorem dX11_look_38 : decode cX11_look 38 = .ok (.iconst 4, 1) := by decide +kernel
theorem dX11_look_39 : decode cX11_look 39 = .ok (.if_icmp .ne 7, 3) := by decide +kernel
theorem dX11_look_42 : decode cX11_look 42 = .ok (.iconst 1, 1) := by decide +kernel
theorem dX11_look_43 : decode cX11_look 43 = .ok (.goto 4, 3) := by decide +kernel
theorem dX11_look_46 : decode cX11_look 46 = .ok (.iconst 0, 1) := by decide +kernel
theorem dX11_look_47 : decode cX11_look 47 = .ok (.invokevirtual 527, 3) := by decide +kernel
theorem dX11_look_50 : decode cX11_look 50 = .ok (.return_, 1) := by decide +kernel
theorem dX11_guessed_0 : decode cX11_guessed 0 = .ok (.aload_n 0, 1) := by decide +kernel
theorem dX11_guessed_1 : decode cX11_guessed 1 = .ok (.iload_n 2, 1) := by decide +kernel
theorem dX11_guessed_2 : decode cX11_guessed 2 = .ok (.invokevirtual 445, 3) := by decide +kernel
theorem dX11_guessed_5 : decode cX11_guessed 5 = .ok (.aload_n 0, 1) := by decide +kernel
theorem dX11_guessed_6 : decode cX11_guessed 6 = .ok (.getfield 76, 3) := by decide +kernel
theorem dX11_guessed_9 : decode cX11_guessed 9 = .ok (.getfield 417, 3) := by decide +kernel
theorem dX11_guessed_12 : decode cX11_guessed 12 = .ok (.iload_n 1, 1) := by decide +kernel
theorem dX11_guessed_13 : decode cX11_guessed 13 = .ok (.aaload, 1) := by decide +kernel
theorem dX11_guessed_14 : decode cX11_guessed 14 = .ok (.astore_n 3, 1) := by decide +kernel
theorem dX11_guessed_15 : decode cX11_guessed 15 = .ok (.aload_n 0, 1) := by decide +kernel
theorem dX11_guessed_16 : decode cX11_guessed 16 = .ok (.getfield 76, 3) := by decide +kernel
theorem dX11_guessed_19 : decode cX11_guessed 19 = .ok (.aload_n 0, 1) := by decide +kernel
theorem dX11_guessed_20 : decode cX11_guessed 20 = .ok (.getfield 68, 3) := by decide +kernel
theorem dX11_guessed_23 : decode cX11_guessed 23 = .ok (.aload_n 3, 1) := by decide +kernel
theorem dX11_guessed_24 : decode cX11_guessed 24 = .ok (.iconst 0, 1) := by decide +kernel
theorem dX11_guessed_25 : decode cX11_guessed 25 = .ok (.iaload, 1) := by decide +kernel
theorem dX11_guessed_26 : decode cX11_guessed 26 = .ok (.aload_n 3, 1) := by decide +kernel
theorem dX11_guessed_27 : decode cX11_guessed 27 = .ok (.iconst 1, 1) := by decide +kernel
theorem dX11_guessed_28 : decode cX11_guessed 28 = .ok (.iaload, 1) := by decide +kernel
theorem dX11_guessed_29 : decode cX11_guessed 29 = .ok (.aload_n 3, 1) := by decide +kernel
theorem dX11_guessed_30 : decode cX11_guessed 30 = .ok (.iconst 2, 1) := by decide +kernel
theorem dX11_guessed_31 : decode cX11_guessed 31 = .ok (.iaload, 1) := by decide +kernel
theorem dX11_guessed_32 : decode cX11_guessed 32 = .ok (.invokevirtual 531, 3) := by decide +kernel
theorem dX11_guessed_35 : decode cX11_guessed 35 = .ok (.ireturn, 1) := by decide +kernel
theorem dX11_heldPoses_0 : decode cX11_heldPoses 0 = .ok (.iconst 0, 1) := by decide +kernel
theorem dX11_heldPoses_1 : decode cX11_heldPoses 1 = .ok (.istore_n 1, 1) := by decide +kernel
theorem dX11_heldPoses_2 : decode cX11_heldPoses 2 = .ok (.iconst 0, 1) := by decide +kernel
theorem dX11_heldPoses_3 : decode cX11_heldPoses 3 = .ok (.istore_n 2, 1) := by decide +kernel
theorem dX11_heldPoses_4 : decode cX11_heldPoses 4 = .ok (.iload_n 2, 1) := by decide +kernel
theorem dX11_heldPoses_5 : decode cX11_heldPoses 5 = .ok (.aload_n 0, 1) := by decide +kernel
theorem dX11_heldPoses_6 : decode cX11_heldPoses 6 = .ok (.getfield 213, 3) := by decide +kernel
theorem dX11_heldPoses_9 : decode cX11_heldPoses 9 = .ok (.if_icmp .ge 24, 3) := by decide +kernel
theorem dX11_heldPoses_12 : decode cX11_heldPoses 12 = .ok (.aload_n 0, 1) := by decide +kernel
theorem dX11_heldPoses_13 : decode cX11_heldPoses 13 = .ok (.getfield 61, 3) := by decide +kernel
theorem dX11_heldPoses_16 : decode cX11_heldPoses 16 = .ok (.iload_n 2, 1) := by decide +kernel
theorem dX11_heldPoses_17 : decode cX11_heldPoses 17 = .ok (.aaload, 1) := by decide +kernel
theorem dX11_heldPoses_18 : decode cX11_heldPoses 18 = .ok (.invokevirtual 230, 3) := by decide +kernel
theorem dX11_heldPoses_21 : decode cX11_heldPoses 21 = .ok (.ifCond .eq 6, 3) := by decide +kernel
theorem dX11_heldPoses_24 : decode cX11_heldPoses 24 = .ok (.iinc 1 1, 3) := by decide +kernel
theorem dX11_heldPoses_27 : decode cX11_heldPoses 27 = .ok (.iinc 2 1, 3) := by decide +kernel
theorem dX11_heldPoses_30 : decode cX11_heldPoses 30 = .ok (.goto (-26), 3) := by decide +kernel
theorem dX11_heldPoses_33 : decode cX11_heldPoses 33 = .ok (.iload_n 1, 1) := by decide +kernel
theorem dX11_heldPoses_34 : decode cX11_heldPoses 34 = .ok (.ireturn, 1) := by decide +kernel
theorem dX11_beastsThere_0 : decode cX11_beastsThere 0 = .ok (.iconst 0, 1) := by decide +kernel
theorem dX11_beastsThere_1 : decode cX11_beastsThere 1 = .ok (.istore_n 1, 1) := by decide +kernel
theorem dX11_beastsThere_2 : decode cX11_beastsThere 2 = .ok (.iconst 0, 1) := by decide +kernel
theorem dX11_beastsThere_3 : decode cX11_beastsThere 3 = .ok (.istore_n 2, 1) := by decide +kernel
theorem dX11_beastsThere_4 : decode cX11_beastsThere 4 = .ok (.iload_n 2, 1) := by decide +kernel
theorem dX11_beastsThere_5 : decode cX11_beastsThere 5 = .ok (.bipush 6, 2) := by decide +kernel
theorem dX11_beastsThere_7 : decode cX11_beastsThere 7 = .ok (.if_icmp .ge 24, 3) := by decide +kernel
theorem dX11_beastsThere_10 : decode cX11_beastsThere 10 = .ok (.aload_n 0, 1) := by decide +kernel
theorem dX11_beastsThere_11 : decode cX11_beastsThere 11 = .ok (.getfield 68, 3) := by decide +kernel
theorem dX11_beastsThere_14 : decode cX11_beastsThere 14 = .ok (.iload_n 2, 1) := by decide +kernel
theorem dX11_beastsThere_15 : decode cX11_beastsThere 15 = .ok (.aaload, 1) := by decide +kernel
theorem dX11_beastsThere_16 : decode cX11_beastsThere 16 = .ok (.getfield 284, 3) := by decide +kernel
theorem dX11_beastsThere_19 : decode cX11_beastsThere 19 = .ok (.ifCond .eq 6, 3) := by decide +kernel
theorem dX11_beastsThere_22 : decode cX11_beastsThere 22 = .ok (.iinc 1 1, 3) := by decide +kernel
theorem dX11_beastsThere_25 : decode cX11_beastsThere 25 = .ok (.iinc 2 1, 3) := by decide +kernel
theorem dX11_beastsThere_28 : decode cX11_beastsThere 28 = .ok (.goto (-24), 3) := by decide +kernel
theorem dX11_beastsThere_31 : decode cX11_beastsThere 31 = .ok (.iload_n 1, 1) := by decide +kernel
theorem dX11_beastsThere_32 : decode cX11_beastsThere 32 = .ok (.ireturn, 1) := by decide +kernel
theorem dX11_there_0 : decode cX11_there 0 = .ok (.iconst 0, 1) := by decide +kernel
theorem dX11_there_1 : decode cX11_there 1 = .ok (.istore_n 1, 1) := by decide +kernel
theorem dX11_there_2 : decode cX11_there 2 = .ok (.iconst 0, 1) := by decide +kernel
theorem dX11_there_3 : decode cX11_there 3 = .ok (.istore_n 2, 1) := by decide +kernel
theorem dX11_there_4 : decode cX11_there 4 = .ok (.iload_n 2, 1) := by decide +kernel
theorem dX11_there_5 : decode cX11_there 5 = .ok (.aload_n 0, 1) := by decide +kernel
theorem dX11_there_6 : decode cX11_there 6 = .ok (.arraylength, 1) := by decide +kernel
theorem dX11_there_7 : decode cX11_there 7 = .ok (.if_icmp .ge 21, 3) := by decide +kernel
theorem dX11_there_10 : decode cX11_there 10 = .ok (.aload_n 0, 1) := by decide +kernel
theorem dX11_there_11 : decode cX11_there 11 = .ok (.iload_n 2, 1) := by decide +kernel
theorem dX11_there_12 : decode cX11_there 12 = .ok (.aaload, 1) := by decide +kernel
theorem dX11_there_13 : decode cX11_there 13 = .ok (.invokevirtual 119, 3) := by decide +kernel
theorem dX11_there_16 : decode cX11_there 16 = .ok (.ifCond .eq 6, 3) := by decide +kernel
theorem dX11_there_19 : decode cX11_there 19 = .ok (.iinc 1 1, 3) := by decide +kernel
theorem dX11_there_22 : decode cX11_there 22 = .ok (.iinc 2 1, 3) := by decide +kernel
theorem dX11_there_25 : decode cX11_there 25 = .ok (.goto (-21), 3) := by decide +kernel
theorem dX11_there_28 : decode cX11_there 28 = .ok (.iload_n 1, 1) := by decide +kernel
theorem dX11_there_29 : decode cX11_there 29 = .ok (.ireturn, 1) := by decide +kernel
theorem dX11_mix_0 : decode cX11_mix 0 = .ok (.ldc2_w 535, 3) := by decide +kernel
theorem dX11_mix_3 : decode cX11_mix 3 = .ok (.lload_n 0, 1) := by decide +kernel
theorem dX11_mix_4 : decode cX11_mix 4 = .ok (.lmul, 1) := by decide +kernel
theorem dX11_mix_5 : decode cX11_mix 5 = .ok (.lload_n 2, 1) := by decide +kernel
theorem dX11_mix_6 : decode cX11_mix 6 = .ok (.ladd, 1) := by decide +kernel
theorem dX11_mix_7 : decode cX11_mix 7 = .ok (.lreturn, 1) := by decide +kernel
theorem dX12_init_0 : decode cX12_init 0 = .ok (.aload_n 0, 1) := by decide +kernel
theorem dX12_init_1 : decode cX12_init 1 = .ok (.invokespecial 1, 3) := by decide +kernel
theorem dX12_init_4 : decode cX12_init 4 = .ok (.aload_n 0, 1) := by decide +kernel
theorem dX12_init_5 : decode cX12_init 5 = .ok (.bipush 6, 2) := by decide +kernel
theorem dX12_init_7 : decode cX12_init 7 = .ok (.newarray .int, 2) := by decide +kernel
theorem dX12_init_9 : decode cX12_init 9 = .ok (.putfield 7, 3) := by decide +kernel
theorem dX12_init_12 : decode cX12_init 12 = .ok (.aload_n 0, 1) := by decide +kernel
theorem dX12_init_13 : decode cX12_init 13 = .ok (.bipush 6, 2) := by decide +kernel
theorem dX12_init_15 : decode cX12_init 15 = .ok (.newarray .int, 2) := by decide +kernel
theorem dX12_init_17 : decode cX12_init 17 = .ok (.putfield 13, 3) := by decide +kernel
theorem dX12_init_20 : decode cX12_init 20 = .ok (.aload_n 0, 1) := by decide +kernel
theorem dX12_init_21 : decode cX12_init 21 = .ok (.sipush 240, 3) := by decide +kernel
theorem dX12_init_24 : decode cX12_init 24 = .ok (.newarray .int, 2) := by decide +kernel
theorem dX12_init_26 : decode cX12_init 26 = .ok (.putfield 16, 3) := by decide +kernel
theorem dX12_init_29 : decode cX12_init 29 = .ok (.aload_n 0, 1) := by decide +kernel
theorem dX12_init_30 : decode cX12_init 30 = .ok (.bipush 40, 2) := by decide +kernel
theorem dX12_init_32 : decode cX12_init 32 = .ok (.newarray .int, 2) := by decide +kernel
theorem dX12_init_34 : decode cX12_init 34 = .ok (.putfield 19, 3) := by decide +kernel
theorem dX12_init_37 : decode cX12_init 37 = .ok (.aload_n 0, 1) := by decide +kernel
theorem dX12_init_38 : decode cX12_init 38 = .ok (.iconst 4, 1) := by decide +kernel
theorem dX12_init_39 : decode cX12_init 39 = .ok (.newarray .int, 2) := by decide +kernel
theorem dX12_init_41 : decode cX12_init 41 = .ok (.putfield 22, 3) := by decide +kernel
theorem dX12_init_44 : decode cX12_init 44 = .ok (.aload_n 0, 1) := by decide +kernel
theorem dX12_init_45 : decode cX12_init 45 = .ok (.sipush 320, 3) := by decide +kernel
theorem dX12_init_48 : decode cX12_init 48 = .ok (.newarray .byte, 2) := by decide +kernel
theorem dX12_init_50 : decode cX12_init 50 = .ok (.putfield 25, 3) := by decide +kernel
theorem dX12_init_53 : decode cX12_init 53 = .ok (.aload_n 0, 1) := by decide +kernel
theorem dX12_init_54 : decode cX12_init 54 = .ok (.iconst 2, 1) := by decide +kernel
theorem dX12_init_55 : decode cX12_init 55 = .ok (.newarray .int, 2) := by decide +kernel
theorem dX12_init_57 : decode cX12_init 57 = .ok (.putfield 29, 3) := by decide +kernel
theorem dX12_init_60 : decode cX12_init 60 = .ok (.aload_n 0, 1) := by decide +kernel
theorem dX12_init_61 : decode cX12_init 61 = .ok (.bipush 24, 2) := by decide +kernel
theorem dX12_init_63 : decode cX12_init 63 = .ok (.newarray .int, 2) := by decide +kernel
theorem dX12_init_65 : decode cX12_init 65 = .ok (.putfield 32, 3) := by decide +kernel
theorem dX12_init_68 : decode cX12_init 68 = .ok (.aload_n 0, 1) := by decide +kernel
theorem dX12_init_69 : decode cX12_init 69 = .ok (.bipush 18, 2) := by decide +kernel
theorem dX12_init_71 : decode cX12_init 71 = .ok (.newarray .int, 2) := by decide +kernel
theorem dX12_init_73 : decode cX12_init 73 = .ok (.putfield 35, 3) := by decide +kernel
theorem dX12_init_76 : decode cX12_init 76 = .ok (.aload_n 0, 1) := by decide +kernel
theorem dX12_init_77 : decode cX12_init 77 = .ok (.iconst 2, 1) := by decide +kernel
theorem dX12_init_78 : decode cX12_init 78 = .ok (.newarray .int, 2) := by decide +kernel
theorem dX12_init_80 : decode cX12_init 80 = .ok (.putfield 38, 3) := by decide +kernel
theorem dX12_init_83 : decode cX12_init 83 = .ok (.aload_n 0, 1) := by decide +kernel
theorem dX12_init_84 : decode cX12_init 84 = .ok (.bipush 24, 2) := by decide +kernel
theorem dX12_init_86 : decode cX12_init 86 = .ok (.newarray .int, 2) := by decide +kernel
theorem dX12_init_88 : decode cX12_init 88 = .ok (.putfield 41, 3) := by decide +kernel
theorem dX12_init_91 : decode cX12_init 91 = .ok (.aload_n 0, 1) := by decide +kernel
theorem dX12_init_92 : decode cX12_init 92 = .ok (.bipush 18, 2) := by decide +kernel
theorem dX12_init_94 : decode cX12_init 94 = .ok (.newarray .int, 2) := by decide +kernel
theorem dX12_init_96 : decode cX12_init 96 = .ok (.putfield 44, 3) := by decide +kernel
theorem dX12_init_99 : decode cX12_init 99 = .ok (.aload_n 0, 1) := by decide +kernel
theorem dX12_init_100 : decode cX12_init 100 = .ok (.bipush 6, 2) := by decide +kernel
theorem dX12_init_102 : decode cX12_init 102 = .ok (.newarray .int, 2) := by decide +kernel
theorem dX12_init_104 : decode cX12_init 104 = .ok (.putfield 47, 3) := by decide +kernel
theorem dX12_init_107 : decode cX12_init 107 = .ok (.aload_n 0, 1) := by decide +kernel
theorem dX12_init_108 : decode cX12_init 108 = .ok (.bipush 14, 2) := by decide +kernel
theorem dX12_init_110 : decode cX12_init 110 = .ok (.newarray .int, 2) := by decide +kernel
theorem dX12_init_112 : decode cX12_init 112 = .ok (.putfield 50, 3) := by decide +kernel
theorem dX12_init_115 : decode cX12_init 115 = .ok (.aload_n 0, 1) := by decide +kernel
theorem dX12_init_116 : decode cX12_init 116 = .ok (.bipush 14, 2) := by decide +kernel
theorem dX12_init_118 : decode cX12_init 118 = .ok (.newarray .int, 2) := by decide +kernel
theorem dX12_init_120 : decode cX12_init 120 = .ok (.putfield 53, 3) := by decide +kernel
theorem dX12_init_123 : decode cX12_init 123 = .ok (.aload_n 0, 1) := by decide +kernel
theorem dX12_init_124 : decode cX12_init 124 = .ok (.bipush 10, 2) := by decide +kernel
theorem dX12_init_126 : decode cX12_init 126 = .ok (.newarray .int, 2) := by decide +kernel
theorem dX12_init_128 : decode cX12_init 128 = .ok (.putfield 56, 3) := by decide +kernel
theorem dX12_init_131 : decode cX12_init 131 = .ok (.aload_n 0, 1) := by decide +kernel
theorem dX12_init_132 : decode cX12_init 132 = .ok (.bipush 36, 2) := by decide +kernel
theorem dX12_init_134 : decode cX12_init 134 = .ok (.newarray .int, 2) := by decide +kernel
theorem dX12_init_136 : decode cX12_init 136 = .ok (.putfield 59, 3) := by decide +kernel
theorem dX12_init_139 : decode cX12_init 139 = .ok (.aload_n 0, 1) := by decide +kernel
theorem dX12_init_140 : decode cX12_init 140 = .ok (.bipush 72, 2) := by decide +kernel
theorem dX12_init_142 : decode cX12_init 142 = .ok (.newarray .int, 2) := by decide +kernel
theorem dX12_init_144 : decode cX12_init 144 = .ok (.putfield 62, 3) := by decide +kernel
theorem dX12_init_147 : decode cX12_init 147 = .ok (.aload_n 0, 1) := by decide +kernel
theorem dX12_init_148 : decode cX12_init 148 = .ok (.bipush 120, 2) := by decide +kernel
theorem dX12_init_150 : decode cX12_init 150 = .ok (.newarray .int, 2) := by decide +kernel
theorem dX12_init_152 : decode cX12_init 152 = .ok (.putfield 65, 3) := by decide +kernel
theorem dX12_init_155 : decode cX12_init 155 = .ok (.aload_n 0, 1) := by decide +kernel
theorem dX12_init_156 : decode cX12_init 156 = .ok (.bipush 6, 2) := by decide +kernel
theorem dX12_init_158 : decode cX12_init 158 = .ok (.newarray .boolean, 2) := by decide +kernel
theorem dX12_init_160 : decode cX12_init 160 = .ok (.putfield 68, 3) := by decide +kernel
theorem dX12_init_163 : decode cX12_init 163 = .ok (.aload_n 0, 1) := by decide +kernel
theorem dX12_init_164 : decode cX12_init 164 = .ok (.bipush 60, 2) := by decide +kernel
theorem dX12_init_166 : decode cX12_init 166 = .ok (.newarray .int, 2) := by decide +kernel
theorem dX12_init_168 : decode cX12_init 168 = .ok (.putfield 72, 3) := by decide +kernel
theorem dX12_init_171 : decode cX12_init 171 = .ok (.aload_n 0, 1) := by decide +kernel
theorem dX12_init_172 : decode cX12_init 172 = .ok (.bipush 60, 2) := by decide +kernel
theorem dX12_init_174 : decode cX12_init 174 = .ok (.newarray .int, 2) := by decide +kernel
theorem dX12_init_176 : decode cX12_init 176 = .ok (.putfield 75, 3) := by decide +kernel
theorem dX12_init_179 : decode cX12_init 179 = .ok (.aload_n 0, 1) := by decide +kernel
theorem dX12_init_180 : decode cX12_init 180 = .ok (.bipush 6, 2) := by decide +kernel
theorem dX12_init_182 : decode cX12_init 182 = .ok (.newarray .int, 2) := by decide +kernel
theorem dX12_init_184 : decode cX12_init 184 = .ok (.putfield 78, 3) := by decide +kernel
theorem dX12_init_187 : decode cX12_init 187 = .ok (.aload_n 0, 1) := by decide +kernel
theorem dX12_init_188 : decode cX12_init 188 = .ok (.bipush 10, 2) := by decide +kernel
theorem dX12_init_190 : decode cX12_init 190 = .ok (.newarray .int, 2) := by decide +kernel
theorem dX12_init_192 : decode cX12_init 192 = .ok (.putfield 81, 3) := by decide +kernel
theorem dX12_init_195 : decode cX12_init 195 = .ok (.aload_n 0, 1) := by decide +kernel
theorem dX12_init_196 : decode cX12_init 196 = .ok (.bipush 10, 2) := by decide +kernel
theorem dX12_init_198 : decode cX12_init 198 = .ok (.newarray .int, 2) := by decide +kernel
theorem dX12_init_200 : decode cX12_init 200 = .ok (.putfield 84, 3) := by decide +kernel
theorem dX12_init_203 : decode cX12_init 203 = .ok (.aload_n 0, 1) := by decide +kernel
theorem dX12_init_204 : decode cX12_init 204 = .ok (.bipush 6, 2) := by decide +kernel
theorem dX12_init_206 : decode cX12_init 206 = .ok (.newarray .int, 2) := by decide +kernel
theorem dX12_init_208 : decode cX12_init 208 = .ok (.putfield 87, 3) := by decide +kernel
theorem dX12_init_211 : decode cX12_init 211 = .ok (.aload_n 0, 1) := by decide +kernel
theorem dX12_init_212 : decode cX12_init 212 = .ok (.bipush 6, 2) := by decide +kernel
theorem dX12_init_214 : decode cX12_init 214 = .ok (.newarray .int, 2) := by decide +kernel
theorem dX12_init_216 : decode cX12_init 216 = .ok (.putfield 90, 3) := by decide +kernel
theorem dX12_init_219 : decode cX12_init 219 = .ok (.aload_n 0, 1) := by decide +kernel
theorem dX12_init_220 : decode cX12_init 220 = .ok (.sipush 4096, 3) := by decide +kernel
theorem dX12_init_223 : decode cX12_init 223 = .ok (.newarray .int, 2) := by decide +kernel
theorem dX12_init_225 : decode cX12_init 225 = .ok (.putfield 93, 3) := by decide +kernel
theorem dX12_init_228 : decode cX12_init 228 = .ok (.aload_n 0, 1) := by decide +kernel
theorem dX12_init_229 : decode cX12_init 229 = .ok (.sipush 4096, 3) := by decide +kernel
theorem dX12_init_232 : decode cX12_init 232 = .ok (.newarray .int, 2) := by decide +kernel
theorem dX12_init_234 : decode cX12_init 234 = .ok (.putfield 96, 3) := by decide +kernel
theorem dX12_init_237 : decode cX12_init 237 = .ok (.aload_n 0, 1) := by decide +kernel
theorem dX12_init_238 : decode cX12_init 238 = .ok (.sipush 4096, 3) := by decide +kernel
theorem dX12_init_241 : decode cX12_init 241 = .ok (.newarray .boolean, 2) := by decide +kernel
theorem dX12_init_243 : decode cX12_init 243 = .ok (.putfield 99, 3) := by decide +kernel
theorem dX12_init_246 : decode cX12_init 246 = .ok (.aload_n 0, 1) := by decide +kernel
theorem dX12_init_247 : decode cX12_init 247 = .ok (.bipush 8, 2) := by decide +kernel
theorem dX12_init_249 : decode cX12_init 249 = .ok (.newarray .int, 2) := by decide +kernel
theorem dX12_init_251 : decode cX12_init 251 = .ok (.putfield 102, 3) := by decide +kernel
theorem dX12_init_254 : decode cX12_init 254 = .ok (.aload_n 0, 1) := by decide +kernel
theorem dX12_init_255 : decode cX12_init 255 = .ok (.bipush 64, 2) := by decide +kernel
theorem dX12_init_257 : decode cX12_init 257 = .ok (.newarray .int, 2) := by decide +kernel
theorem dX12_init_259 : decode cX12_init 259 = .ok (.putfield 105, 3) := by decide +kernel
theorem dX12_init_262 : decode cX12_init 262 = .ok (.aload_n 0, 1) := by decide +kernel
theorem dX12_init_263 : decode cX12_init 263 = .ok (.sipush 2048, 3) := by decide +kernel
theorem dX12_init_266 : decode cX12_init 266 = .ok (.newarray .int, 2) := by decide +kernel
theorem dX12_init_268 : decode cX12_init 268 = .ok (.putfield 108, 3) := by decide +kernel
theorem dX12_init_271 : decode cX12_init 271 = .ok (.aload_n 0, 1) := by decide +kernel
theorem dX12_init_272 : decode cX12_init 272 = .ok (.bipush 24, 2) := by decide +kernel
theorem dX12_init_274 : decode cX12_init 274 = .ok (.newarray .int, 2) := by decide +kernel
theorem dX12_init_276 : decode cX12_init 276 = .ok (.putfield 111, 3) := by decide +kernel
theorem dX12_init_279 : decode cX12_init 279 = .ok (.aload_n 0, 1) := by decide +kernel
theorem dX12_init_280 : decode cX12_init 280 = .ok (.bipush 72, 2) := by decide +kernel
theorem dX12_init_282 : decode cX12_init 282 = .ok (.newarray .int, 2) := by decide +kernel
theorem dX12_init_284 : decode cX12_init 284 = .ok (.putfield 114, 3) := by decide +kernel
theorem dX12_init_287 : decode cX12_init 287 = .ok (.aload_n 0, 1) := by decide +kernel
theorem dX12_init_288 : decode cX12_init 288 = .ok (.lconst 1, 1) := by decide +kernel
theorem dX12_init_289 : decode cX12_init 289 = .ok (.putfield 117, 3) := by decide +kernel
theorem dX12_init_292 : decode cX12_init 292 = .ok (.aload_n 0, 1) := by decide +kernel
theorem dX12_init_293 : decode cX12_init 293 = .ok (.bipush 99, 2) := by decide +kernel
theorem dX12_init_295 : decode cX12_init 295 = .ok (.putfield 121, 3) := by decide +kernel
theorem dX12_init_298 : decode cX12_init 298 = .ok (.aload_n 0, 1) := by decide +kernel
theorem dX12_init_299 : decode cX12_init 299 = .ok (.iconst 1, 1) := by decide +kernel
theorem dX12_init_300 : decode cX12_init 300 = .ok (.putfield 125, 3) := by decide +kernel
theorem dX12_init_303 : decode cX12_init 303 = .ok (.iconst 0, 1) := by decide +kernel
theorem dX12_init_304 : decode cX12_init 304 = .ok (.istore_n 1, 1) := by decide +kernel
theorem dX12_init_305 : decode cX12_init 305 = .ok (.iload_n 1, 1) := by decide +kernel
theorem dX12_init_306 : decode cX12_init 306 = .ok (.bipush 6, 2) := by decide +kernel
theorem dX12_init_308 : decode cX12_init 308 = .ok (.if_icmp .ge 16, 3) := by decide +kernel
theorem dX12_init_311 : decode cX12_init 311 = .ok (.aload_n 0, 1) := by decide +kernel
theorem dX12_init_312 : decode cX12_init 312 = .ok (.getfield 13, 3) := by decide +kernel
theorem dX12_init_315 : decode cX12_init 315 = .ok (.iload_n 1, 1) := by decide +kernel
theorem dX12_init_316 : decode cX12_init 316 = .ok (.iconst (-1), 1) := by decide +kernel
theorem dX12_init_317 : decode cX12_init 317 = .ok (.iastore, 1) := by decide +kernel
theorem dX12_init_318 : decode cX12_init 318 = .ok (.iinc 1 1, 3) := by decide +kernel
theorem dX12_init_321 : decode cX12_init 321 = .ok (.goto (-16), 3) := by decide +kernel
theorem dX12_init_324 : decode cX12_init 324 = .ok (.iconst 0, 1) := by decide +kernel
theorem dX12_init_325 : decode cX12_init 325 = .ok (.istore_n 1, 1) := by decide +kernel
theorem dX12_init_326 : decode cX12_init 326 = .ok (.iload_n 1, 1) := by decide +kernel
theorem dX12_init_327 : decode cX12_init 327 = .ok (.iconst 4, 1) := by decide +kernel
theorem dX12_init_328 : decode cX12_init 328 = .ok (.if_icmp .ge 16, 3) := by decide +kernel
theorem dX12_init_331 : decode cX12_init 331 = .ok (.aload_n 0, 1) := by decide +kernel
theorem dX12_init_332 : decode cX12_init 332 = .ok (.getfield 22, 3) := by decide +kernel
theorem dX12_init_335 : decode cX12_init 335 = .ok (.iload_n 1, 1) := by decide +kernel
theorem dX12_init_336 : decode cX12_init 336 = .ok (.iconst (-1), 1) := by decide +kernel
theorem dX12_init_337 : decode cX12_init 337 = .ok (.iastore, 1) := by decide +kernel
theorem dX12_init_338 : decode cX12_init 338 = .ok (.iinc 1 1, 3) := by decide +kernel
theorem dX12_init_341 : decode cX12_init 341 = .ok (.goto (-15), 3) := by decide +kernel
theorem dX12_init_344 : decode cX12_init 344 = .ok (.return_, 1) := by decide +kernel
theorem dX12_in_0 : decode cX12_in 0 = .ok (.iload_n 0, 1) := by decide +kernel
theorem dX12_in_1 : decode cX12_in 1 = .ok (.iload_n 1, 1) := by decide +kernel
theorem dX12_in_2 : decode cX12_in 2 = .ok (.if_icmp .lt 12, 3) := by decide +kernel
theorem dX12_in_5 : decode cX12_in 5 = .ok (.iload_n 0, 1) := by decide +kernel
theorem dX12_in_6 : decode cX12_in 6 = .ok (.iload_n 2, 1) := by decide +kernel
theorem dX12_in_7 : decode cX12_in 7 = .ok (.if_icmp .gt 7, 3) := by decide +kernel
theorem dX12_in_10 : decode cX12_in 10 = .ok (.iconst 1, 1) := by decide +kernel
theorem dX12_in_11 : decode cX12_in 11 = .ok (.goto 4, 3) := by decide +kernel
theorem dX12_in_14 : decode cX12_in 14 = .ok (.iconst 0, 1) := by decide +kernel
theorem dX12_in_15 : decode cX12_in 15 = .ok (.ireturn, 1) := by decide +kernel
theorem dX12_has_0 : decode cX12_has 0 = .ok (.iload_n 0, 1) := by decide +kernel
theorem dX12_has_1 : decode cX12_has 1 = .ok (.iload_n 1, 1) := by decide +kernel
theorem dX12_has_2 : decode cX12_has 2 = .ok (.ishr, 1) := by decide +kernel
theorem dX12_has_3 : decode cX12_has 3 = .ok (.iconst 1, 1) := by decide +kernel
theorem dX12_has_4 : decode cX12_has 4 = .ok (.iand, 1) := by decide +kernel
theorem dX12_has_5 : decode cX12_has 5 = .ok (.iconst 1, 1) := by decide +kernel
theorem dX12_has_6 : decode cX12_has 6 = .ok (.if_icmp .ne 7, 3) := by decide +kernel
theorem dX12_has_9 : decode cX12_has 9 = .ok (.iconst 1, 1) := by decide +kernel
theorem dX12_has_10 : decode cX12_has 10 = .ok (.goto 4, 3) := by decide +kernel
theorem dX12_has_13 : decode cX12_has 13 = .ok (.iconst 0, 1) := by decide +kernel
theorem dX12_has_14 : decode cX12_has 14 = .ok (.ireturn, 1) := by decide +kernel
theorem dX12_bits_0 : decode cX12_bits 0 = .ok (.iconst 0, 1) := by decide +kernel
theorem dX12_bits_1 : decode cX12_bits 1 = .ok (.istore_n 1, 1) := by decide +kernel
theorem dX12_bits_2 : decode cX12_bits 2 = .ok (.iload_n 0, 1) := by decide +kernel
theorem dX12_bits_3 : decode cX12_bits 3 = .ok (.istore_n 2, 1) := by decide +kernel
theorem dX12_bits_4 : decode cX12_bits 4 = .ok (.iload_n 2, 1) := by decide +kernel
theorem dX12_bits_5 : decode cX12_bits 5 = .ok (.ifCond .eq 15, 3) := by decide +kernel
theorem dX12_bits_8 : decode cX12_bits 8 = .ok (.iinc 1 1, 3) := by decide +kernel
theorem dX12_bits_11 : decode cX12_bits 11 = .ok (.iload_n 2, 1) := by decide +kernel
theorem dX12_bits_12 : decode cX12_bits 12 = .ok (.iload_n 2, 1) := by decide +kernel
theorem dX12_bits_13 : decode cX12_bits 13 = .ok (.iconst 1, 1) := by decide +kernel
theorem dX12_bits_14 : decode cX12_bits 14 = .ok (.isub, 1) := by decide +kernel
theorem dX12_bits_15 : decode cX12_bits 15 = .ok (.iand, 1) := by decide +kernel
theorem dX12_bits_16 : decode cX12_bits 16 = .ok (.istore_n 2, 1) := by decide +kernel
theorem dX12_bits_17 : decode cX12_bits 17 = .ok (.goto (-13), 3) := by decide +kernel
theorem dX12_bits_20 : decode cX12_bits 20 = .ok (.iload_n 1, 1) := by decide +kernel
theorem dX12_bits_21 : decode cX12_bits 21 = .ok (.ireturn, 1) := by decide +kernel
theorem dX12_meets_0 : decode cX12_meets 0 = .ok (.aload_n 0, 1) := by decide +kernel
theorem dX12_meets_1 : decode cX12_meets 1 = .ok (.iload_n 1, 1) := by decide +kernel
theorem dX12_meets_2 : decode cX12_meets 2 = .ok (.putfield 128, 3) := by decide +kernel
theorem dX12_meets_5 : decode cX12_meets 5 = .ok (.aload_n 0, 1) := by decide +kernel
theorem dX12_meets_6 : decode cX12_meets 6 = .ok (.getfield 7, 3) := by decide +kernel
theorem dX12_meets_9 : decode cX12_meets 9 = .ok (.iload_n 1, 1) := by decide +kernel
theorem dX12_meets_10 : decode cX12_meets 10 = .ok (.dup2, 1) := by decide +kernel
theorem dX12_meets_11 : decode cX12_meets 11 = .ok (.iaload, 1) := by decide +kernel
theorem dX12_meets_12 : decode cX12_meets 12 = .ok (.iconst 1, 1) := by decide +kernel
theorem dX12_meets_13 : decode cX12_meets 13 = .ok (.iadd, 1) := by decide +kernel
theorem dX12_meets_14 : decode cX12_meets 14 = .ok (.iastore, 1) := by decide +kernel
theorem dX12_meets_15 : decode cX12_meets 15 = .ok (.bipush (-3), 2) := by decide +kernel
theorem dX12_meets_17 : decode cX12_meets 17 = .ok (.ireturn, 1) := by decide +kernel
theorem dX12_finding_0 : decode cX12_finding 0 = .ok (.aload_n 0, 1) := by decide +kernel
theorem dX12_finding_1 : decode cX12_finding 1 = .ok (.getfield 128, 3) := by decide +kernel
theorem dX12_finding_4 : decode cX12_finding 4 = .ok (.ireturn, 1) := by decide +kernel
theorem dX12_findings_0 : decode cX12_findings 0 = .ok (.iload_n 1, 1) := by decide +kernel
theorem dX12_findings_1 : decode cX12_findings 1 = .ok (.iconst 1, 1) := by decide +kernel
theorem dX12_findings_2 : decode cX12_findings 2 = .ok (.iconst 5, 1) := by decide +kernel
theorem dX12_findings_3 : decode cX12_findings 3 = .ok (.invokestatic 131, 3) := by decide +kernel
theorem dX12_findings_6 : decode cX12_findings 6 = .ok (.ifCond .eq 12, 3) := by decide +kernel
theorem dX12_findings_9 : decode cX12_findings 9 = .ok (.aload_n 0, 1) := by decide +kernel
theorem dX12_findings_10 : decode cX12_findings 10 = .ok (.getfield 7, 3) := by decide +kernel
theorem dX12_findings_13 : decode cX12_findings 13 = .ok (.iload_n 1, 1) := by decide +kernel
theorem dX12_findings_14 : decode cX12_findings 14 = .ok (.iaload, 1) := by decide +kernel
theorem dX12_findings_15 : decode cX12_findings 15 = .ok (.goto 4, 3) := by decide +kernel
theorem dX12_findings_18 : decode cX12_findings 18 = .ok (.iconst (-1), 1) := by decide +kernel
theorem dX12_findings_19 : decode cX12_findings 19 = .ok (.ireturn, 1) := by decide +kernel
theorem dX12_tells_0 : decode cX12_tells 0 = .ok (.aload_n 0, 1) := by decide +kernel
theorem dX12_tells_1 : decode cX12_tells 1 = .ok (.iload_n 1, 1) := by decide +kernel
theorem dX12_tells_2 : decode cX12_tells 2 = .ok (.putfield 135, 3) := by decide +kernel
theorem dX12_tells_5 : decode cX12_tells 5 = .ok (.iload_n 2, 1) := by decide +kernel
theorem dX12_tells_6 : decode cX12_tells 6 = .ok (.ireturn, 1) := by decide +kernel
theorem dX12_asked_0 : decode cX12_asked 0 = .ok (.aload_n 0, 1) := by decide +kernel
theorem dX12_asked_1 : decode cX12_asked 1 = .ok (.getfield 135, 3) := by decide +kernel
theorem dX12_asked_4 : decode cX12_asked 4 = .ok (.ireturn, 1) := by decide +kernel
theorem dX12_fraction_0 : decode cX12_fraction 0 = .ok (.lload_n 1, 1) := by decide +kernel
theorem dX12_fraction_1 : decode cX12_fraction 1 = .ok (.lstore 6, 2) := by decide +kernel
theorem dX12_fraction_3 : decode cX12_fraction 3 = .ok (.lload_n 3, 1) := by decide +kernel
theorem dX12_fraction_4 : decode cX12_fraction 4 = .ok (.lstore 8, 2) := by decide +kernel
theorem dX12_fraction_6 : decode cX12_fraction 6 = .ok (.lload 8, 2) := by decide +kernel
theorem dX12_fraction_8 : decode cX12_fraction 8 = .ok (.lconst 0, 1) := by decide +kernel
theorem dX12_fraction_9 : decode cX12_fraction 9 = .ok (.lcmp, 1) := by decide +kernel
theorem dX12_fraction_10 : decode cX12_fraction 10 = .ok (.ifCond .eq 21, 3) := by decide +kernel
theorem dX12_fraction_13 : decode cX12_fraction 13 = .ok (.lload 6, 2) := by decide +kernel
theorem dX12_fraction_15 : decode cX12_fraction 15 = .ok (.lload 8, 2) := by decide +kernel
theorem dX12_fraction_17 : decode cX12_fraction 17 = .ok (.lrem, 1) := by decide +kernel
theorem dX12_fraction_18 : decode cX12_fraction 18 = .ok (.lstore 10, 2) := by decide +kernel
theorem dX12_fraction_20 : decode cX12_fraction 20 = .ok (.lload 8, 2) := by decide +kernel
theorem dX12_fraction_22 : decode cX12_fraction 22 = .ok (.lstore 6, 2) := by decide +kernel
theorem dX12_fraction_24 : decode cX12_fraction 24 = .ok (.lload 10, 2) := by decide +kernel
theorem dX12_fraction_26 : decode cX12_fraction 26 = .ok (.lstore 8, 2) := by decide +kernel
theorem dX12_fraction_28 : decode cX12_fraction 28 = .ok (.goto (-22), 3) := by decide +kernel
theorem dX12_fraction_31 : decode cX12_fraction 31 = .ok (.aload_n 0, 1) := by decide +kernel
theorem dX12_fraction_32 : decode cX12_fraction 32 = .ok (.lload_n 1, 1) := by decide +kernel
theorem dX12_fraction_33 : decode cX12_fraction 33 = .ok (.lload 6, 2) := by decide +kernel
theorem dX12_fraction_35 : decode cX12_fraction 35 = .ok (.ldiv, 1) := by decide +kernel
theorem dX12_fraction_36 : decode cX12_fraction 36 = .ok (.putfield 138, 3) := by decide +kernel
theorem dX12_fraction_39 : decode cX12_fraction 39 = .ok (.aload_n 0, 1) := by decide +kernel
theorem dX12_fraction_40 : decode cX12_fraction 40 = .ok (.lload_n 3, 1) := by decide +kernel
theorem dX12_fraction_41 : decode cX12_fraction 41 = .ok (.lload 6, 2) := by decide +kernel
theorem dX12_fraction_43 : decode cX12_fraction 43 = .ok (.ldiv, 1) := by decide +kernel
theorem dX12_fraction_44 : decode cX12_fraction 44 = .ok (.putfield 117, 3) := by decide +kernel
theorem dX12_fraction_47 : decode cX12_fraction 47 = .ok (.iload 5, 2) := by decide +kernel
theorem dX12_fraction_49 : decode cX12_fraction 49 = .ok (.ireturn, 1) := by decide +kernel
theorem dX12_upper_0 : decode cX12_upper 0 = .ok (.aload_n 0, 1) := by decide +kernel
theorem dX12_upper_1 : decode cX12_upper 1 = .ok (.getfield 138, 3) := by decide +kernel
theorem dX12_upper_4 : decode cX12_upper 4 = .ok (.lreturn, 1) := by decide +kernel
theorem dX12_lower_0 : decode cX12_lower 0 = .ok (.aload_n 0, 1) := by decide +kernel
theorem dX12_lower_1 : decode cX12_lower 1 = .ok (.getfield 117, 3) := by decide +kernel
theorem dX12_lower_4 : decode cX12_lower 4 = .ok (.lreturn, 1) := by decide +kernel
theorem dX12_isRow_0 : decode cX12_isRow 0 = .ok (.iload_n 0, 1) := by decide +kernel
theorem dX12_isRow_1 : decode cX12_isRow 1 = .ok (.iconst 0, 1) := by decide +kernel
theorem dX12_isRow_2 : decode cX12_isRow 2 = .ok (.iconst 5, 1) := by decide +kernel
theorem dX12_isRow_3 : decode cX12_isRow 3 = .ok (.invokestatic 131, 3) := by decide +kernel
theorem dX12_isRow_6 : decode cX12_isRow 6 = .ok (.ireturn, 1) := by decide +kernel
theorem dX12_rowAt_0 : decode cX12_rowAt 0 = .ok (.aload_n 0, 1) := by decide +kernel
theorem dX12_rowAt_1 : decode cX12_rowAt 1 = .ok (.getfield 16, 3) := by decide +kernel
theorem dX12_rowAt_4 : decode cX12_rowAt 4 = .ok (.bipush 40, 2) := by decide +kernel
theorem dX12_rowAt_6 : decode cX12_rowAt 6 = .ok (.iload_n 1, 1) := by decide +kernel
theorem dX12_rowAt_7 : decode cX12_rowAt 7 = .ok (.imul, 1) := by decide +kernel
theorem dX12_rowAt_8 : decode cX12_rowAt 8 = .ok (.iload_n 2, 1) := by decide +kernel
theorem dX12_rowAt_9 : decode cX12_rowAt 9 = .ok (.iadd, 1) := by decide +kernel
theorem dX12_rowAt_10 : decode cX12_rowAt 10 = .ok (.iaload, 1) := by decide +kernel
theorem dX12_rowAt_11 : decode cX12_rowAt 11 = .ok (.ireturn, 1) := by decide +kernel
theorem dX12_row_0 : decode cX12_row 0 = .ok (.iload_n 1, 1) := by decide +kernel
theorem dX12_row_1 : decode cX12_row 1 = .ok (.invokestatic 141, 3) := by decide +kernel
theorem dX12_row_4 : decode cX12_row 4 = .ok (.ifCond .eq 9, 3) := by decide +kernel
theorem dX12_row_7 : decode cX12_row 7 = .ok (.iload_n 2, 1) := by decide +kernel
theorem dX12_row_8 : decode cX12_row 8 = .ok (.bipush 40, 2) := by decide +kernel
theorem dX12_row_10 : decode cX12_row 10 = .ok (.if_icmp .le 5, 3) := by decide +kernel
theorem dX12_row_13 : decode cX12_row 13 = .ok (.iconst (-1), 1) := by decide +kernel
theorem dX12_row_14 : decode cX12_row 14 = .ok (.ireturn, 1) := by decide +kernel
theorem dX12_row_15 : decode cX12_row 15 = .ok (.iload_n 2, 1) := by decide +kernel
theorem dX12_row_16 : decode cX12_row 16 = .ok (.ifCond .ge 9, 3) := by decide +kernel
theorem dX12_row_19 : decode cX12_row 19 = .ok (.aload_n 0, 1) := by decide +kernel
theorem dX12_row_20 : decode cX12_row 20 = .ok (.iconst 5, 1) := by decide +kernel
theorem dX12_row_21 : decode cX12_row 21 = .ok (.invokevirtual 145, 3) := by decide +kernel
theorem dX12_row_24 : decode cX12_row 24 = .ok (.ireturn, 1) := by decide +kernel
theorem dX12_row_25 : decode cX12_row 25 = .ok (.aload_n 0, 1) := by decide +kernel
theorem dX12_row_26 : decode cX12_row 26 = .ok (.getfield 13, 3) := by decide +kernel
theorem dX12_row_29 : decode cX12_row 29 = .ok (.iload_n 1, 1) := by decide +kernel
theorem dX12_row_30 : decode cX12_row 30 = .ok (.iload_n 2, 1) := by decide +kernel
theorem dX12_row_31 : decode cX12_row 31 = .ok (.iastore, 1) := by decide +kernel
theorem dX12_row_32 : decode cX12_row 32 = .ok (.iconst 0, 1) := by decide +kernel
theorem dX12_row_33 : decode cX12_row 33 = .ok (.istore_n 3, 1) := by decide +kernel
theorem dX12_row_34 : decode cX12_row 34 = .ok (.iload_n 3, 1) := by decide +kernel
theorem dX12_row_35 : decode cX12_row 35 = .ok (.bipush 40, 2) := by decide +kernel
theorem dX12_row_37 : decode cX12_row 37 = .ok (.if_icmp .ge 21, 3) := by decide +kernel
theorem dX12_row_40 : decode cX12_row 40 = .ok (.aload_n 0, 1) := by decide +kernel
theorem dX12_row_41 : decode cX12_row 41 = .ok (.getfield 16, 3) := by decide +kernel
theorem dX12_row_44 : decode cX12_row 44 = .ok (.bipush 40, 2) := by decide +kernel
theorem dX12_row_46 : decode cX12_row 46 = .ok (.iload_n 1, 1) := by decide +kernel
theorem dX12_row_47 : decode cX12_row 47 = .ok (.imul, 1) := by decide +kernel
theorem dX12_row_48 : decode cX12_row 48 = .ok (.iload_n 3, 1) := by decide +kernel
theorem dX12_row_49 : decode cX12_row 49 = .ok (.iadd, 1) := by decide +kernel
theorem dX12_row_50 : decode cX12_row 50 = .ok (.iconst 0, 1) := by decide +kernel
theorem dX12_row_51 : decode cX12_row 51 = .ok (.iastore, 1) := by decide +kernel
theorem dX12_row_52 : decode cX12_row 52 = .ok (.iinc 3 1, 3) := by decide +kernel
theorem dX12_row_55 : decode cX12_row 55 = .ok (.goto (-21), 3) := by decide +kernel
theorem dX12_row_58 : decode cX12_row 58 = .ok (.iload_n 2, 1) := by decide +kernel
theorem dX12_row_59 : decode cX12_row 59 = .ok (.ireturn, 1) := by decide +kernel
theorem dX12_lay_0 : decode cX12_lay 0 = .ok (.iload_n 1, 1) := by decide +kernel
theorem dX12_lay_1 : decode cX12_lay 1 = .ok (.invokestatic 141, 3) := by decide +kernel
theorem dX12_lay_4 : decode cX12_lay 4 = .ok (.ifCond .ne 5, 3) := by decide +kernel
theorem dX12_lay_7 : decode cX12_lay 7 = .ok (.iconst (-1), 1) := by decide +kernel
theorem dX12_lay_8 : decode cX12_lay 8 = .ok (.ireturn, 1) := by decide +kernel
theorem dX12_lay_9 : decode cX12_lay 9 = .ok (.aload_n 0, 1) := by decide +kernel
theorem dX12_lay_10 : decode cX12_lay 10 = .ok (.getfield 13, 3) := by decide +kernel
theorem dX12_lay_13 : decode cX12_lay 13 = .ok (.iload_n 1, 1) := by decide +kernel
theorem dX12_lay_14 : decode cX12_lay 14 = .ok (.iaload, 1) := by decide +kernel
theorem dX12_lay_15 : decode cX12_lay 15 = .ok (.ifCond .ge 9, 3) := by decide +kernel
theorem dX12_lay_18 : decode cX12_lay 18 = .ok (.aload_n 0, 1) := by decide +kernel
theorem dX12_lay_19 : decode cX12_lay 19 = .ok (.iconst 1, 1) := by decide +kernel
theorem dX12_lay_20 : decode cX12_lay 20 = .ok (.invokevirtual 145, 3) := by decide +kernel
theorem dX12_lay_23 : decode cX12_lay 23 = .ok (.ireturn, 1) := by decide +kernel
theorem dX12_lay_24 : decode cX12_lay 24 = .ok (.iload_n 2, 1) := by decide +kernel
theorem dX12_lay_25 : decode cX12_lay 25 = .ok (.iconst 0, 1) := by decide +kernel
theorem dX12_lay_26 : decode cX12_lay 26 = .ok (.aload_n 0, 1) := by decide +kernel
theorem dX12_lay_27 : decode cX12_lay 27 = .ok (.getfield 13, 3) := by decide +kernel
theorem dX12_lay_30 : decode cX12_lay 30 = .ok (.iload_n 1, 1) := by decide +kernel
theorem dX12_lay_31 : decode cX12_lay 31 = .ok (.iaload, 1) := by decide +kernel
theorem dX12_lay_32 : decode cX12_lay 32 = .ok (.iconst 1, 1) := by decide +kernel
theorem dX12_lay_33 : decode cX12_lay 33 = .ok (.isub, 1) := by decide +kernel
theorem dX12_lay_34 : decode cX12_lay 34 = .ok (.invokestatic 131, 3) := by decide +kernel
theorem dX12_lay_37 : decode cX12_lay 37 = .ok (.ifCond .ne 9, 3) := by decide +kernel
theorem dX12_lay_40 : decode cX12_lay 40 = .ok (.aload_n 0, 1) := by decide +kernel
theorem dX12_lay_41 : decode cX12_lay 41 = .ok (.iconst 2, 1) := by decide +kernel
theorem dX12_lay_42 : decode cX12_lay 42 = .ok (.invokevirtual 145, 3) := by decide +kernel
theorem dX12_lay_45 : decode cX12_lay 45 = .ok (.ireturn, 1) := by decide +kernel
theorem dX12_lay_46 : decode cX12_lay 46 = .ok (.aload_n 0, 1) := by decide +kernel
theorem dX12_lay_47 : decode cX12_lay 47 = .ok (.iload_n 1, 1) := by decide +kernel
theorem dX12_lay_48 : decode cX12_lay 48 = .ok (.iload_n 2, 1) := by decide +kernel
theorem dX12_lay_49 : decode cX12_lay 49 = .ok (.invokevirtual 149, 3) := by decide +kernel
theorem dX12_lay_52 : decode cX12_lay 52 = .ok (.istore 4, 2) := by decide +kernel
