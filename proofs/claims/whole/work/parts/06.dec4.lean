theorem dX12_picture_54 : decode cX12_picture 54 = .ok (.iload 6, 2) := by decide +kernel
theorem dX12_picture_56 : decode cX12_picture 56 = .ok (.bipush 98, 2) := by decide +kernel
theorem dX12_picture_58 : decode cX12_picture 58 = .ok (.if_icmp .ge 64, 3) := by decide +kernel
theorem dX12_picture_61 : decode cX12_picture 61 = .ok (.iload 5, 2) := by decide +kernel
theorem dX12_picture_63 : decode cX12_picture 63 = .ok (.ifCond .ne 59, 3) := by decide +kernel
theorem dX12_picture_66 : decode cX12_picture 66 = .ok (.aload_n 0, 1) := by decide +kernel
theorem dX12_picture_67 : decode cX12_picture 67 = .ok (.iconst 1, 1) := by decide +kernel
theorem dX12_picture_68 : decode cX12_picture 68 = .ok (.iload 6, 2) := by decide +kernel
theorem dX12_picture_70 : decode cX12_picture 70 = .ok (.bipush 49, 2) := by decide +kernel
theorem dX12_picture_72 : decode cX12_picture 72 = .ok (.idiv, 1) := by decide +kernel
theorem dX12_picture_73 : decode cX12_picture 73 = .ok (.iadd, 1) := by decide +kernel
theorem dX12_picture_74 : decode cX12_picture 74 = .ok (.iload 6, 2) := by decide +kernel
theorem dX12_picture_76 : decode cX12_picture 76 = .ok (.bipush 49, 2) := by decide +kernel
theorem dX12_picture_78 : decode cX12_picture 78 = .ok (.irem, 1) := by decide +kernel
theorem dX12_picture_79 : decode cX12_picture 79 = .ok (.bipush 7, 2) := by decide +kernel
theorem dX12_picture_81 : decode cX12_picture 81 = .ok (.idiv, 1) := by decide +kernel
theorem dX12_picture_82 : decode cX12_picture 82 = .ok (.iconst 3, 1) := by decide +kernel
theorem dX12_picture_83 : decode cX12_picture 83 = .ok (.isub, 1) := by decide +kernel
theorem dX12_picture_84 : decode cX12_picture 84 = .ok (.iload 6, 2) := by decide +kernel
theorem dX12_picture_86 : decode cX12_picture 86 = .ok (.bipush 7, 2) := by decide +kernel
theorem dX12_picture_88 : decode cX12_picture 88 = .ok (.irem, 1) := by decide +kernel
theorem dX12_picture_89 : decode cX12_picture 89 = .ok (.iconst 3, 1) := by decide +kernel
theorem dX12_picture_90 : decode cX12_picture 90 = .ok (.isub, 1) := by decide +kernel
theorem dX12_picture_91 : decode cX12_picture 91 = .ok (.invokevirtual 221, 3) := by decide +kernel
theorem dX12_picture_94 : decode cX12_picture 94 = .ok (.aload_n 0, 1) := by decide +kernel
theorem dX12_picture_95 : decode cX12_picture 95 = .ok (.invokevirtual 353, 3) := by decide +kernel
theorem dX12_picture_98 : decode cX12_picture 98 = .ok (.istore 5, 2) := by decide +kernel
theorem dX12_picture_100 : decode cX12_picture 100 = .ok (.iload 5, 2) := by decide +kernel
theorem dX12_picture_102 : decode cX12_picture 102 = .ok (.ifCond .le 10, 3) := by decide +kernel
theorem dX12_picture_105 : decode cX12_picture 105 = .ok (.aload_n 0, 1) := by decide +kernel
theorem dX12_picture_106 : decode cX12_picture 106 = .ok (.invokevirtual 217, 3) := by decide +kernel
theorem dX12_picture_109 : decode cX12_picture 109 = .ok (.goto 5, 3) := by decide +kernel
theorem dX12_picture_112 : decode cX12_picture 112 = .ok (.iload 4, 2) := by decide +kernel
theorem dX12_picture_114 : decode cX12_picture 114 = .ok (.istore 4, 2) := by decide +kernel
theorem dX12_picture_116 : decode cX12_picture 116 = .ok (.iinc 6 1, 3) := by decide +kernel
theorem dX12_picture_119 : decode cX12_picture 119 = .ok (.goto (-65), 3) := by decide +kernel
theorem dX12_picture_122 : decode cX12_picture 122 = .ok (.aload_n 0, 1) := by decide +kernel
theorem dX12_picture_123 : decode cX12_picture 123 = .ok (.iload_n 3, 1) := by decide +kernel
theorem dX12_picture_124 : decode cX12_picture 124 = .ok (.bipush 100, 2) := by decide +kernel
theorem dX12_picture_126 : decode cX12_picture 126 = .ok (.idiv, 1) := by decide +kernel
theorem dX12_picture_127 : decode cX12_picture 127 = .ok (.iload_n 3, 1) := by decide +kernel
theorem dX12_picture_128 : decode cX12_picture 128 = .ok (.bipush 10, 2) := by decide +kernel
theorem dX12_picture_130 : decode cX12_picture 130 = .ok (.idiv, 1) := by decide +kernel
theorem dX12_picture_131 : decode cX12_picture 131 = .ok (.bipush 10, 2) := by decide +kernel
theorem dX12_picture_133 : decode cX12_picture 133 = .ok (.irem, 1) := by decide +kernel
theorem dX12_picture_134 : decode cX12_picture 134 = .ok (.iconst 3, 1) := by decide +kernel
theorem dX12_picture_135 : decode cX12_picture 135 = .ok (.isub, 1) := by decide +kernel
theorem dX12_picture_136 : decode cX12_picture 136 = .ok (.iload_n 3, 1) := by decide +kernel
theorem dX12_picture_137 : decode cX12_picture 137 = .ok (.bipush 10, 2) := by decide +kernel
theorem dX12_picture_139 : decode cX12_picture 139 = .ok (.irem, 1) := by decide +kernel
theorem dX12_picture_140 : decode cX12_picture 140 = .ok (.iconst 3, 1) := by decide +kernel
theorem dX12_picture_141 : decode cX12_picture 141 = .ok (.isub, 1) := by decide +kernel
theorem dX12_picture_142 : decode cX12_picture 142 = .ok (.invokevirtual 221, 3) := by decide +kernel
theorem dX12_picture_145 : decode cX12_picture 145 = .ok (.iload 5, 2) := by decide +kernel
theorem dX12_picture_147 : decode cX12_picture 147 = .ok (.ifCond .ne 8, 3) := by decide +kernel
theorem dX12_picture_150 : decode cX12_picture 150 = .ok (.bipush (-9), 2) := by decide +kernel
theorem dX12_picture_152 : decode cX12_picture 152 = .ok (.goto 11, 3) := by decide +kernel
theorem dX12_picture_155 : decode cX12_picture 155 = .ok (.aload_n 0, 1) := by decide +kernel
theorem dX12_picture_156 : decode cX12_picture 156 = .ok (.iload 5, 2) := by decide +kernel
theorem dX12_picture_158 : decode cX12_picture 158 = .ok (.iload 4, 2) := by decide +kernel
theorem dX12_picture_160 : decode cX12_picture 160 = .ok (.invokevirtual 153, 3) := by decide +kernel
theorem dX12_picture_163 : decode cX12_picture 163 = .ok (.ireturn, 1) := by decide +kernel
theorem dX12_layToCome_0 : decode cX12_layToCome 0 = .ok (.iconst 1, 1) := by decide +kernel
theorem dX12_layToCome_1 : decode cX12_layToCome 1 = .ok (.aload_n 0, 1) := by decide +kernel
theorem dX12_layToCome_2 : decode cX12_layToCome 2 = .ok (.getfield 368, 3) := by decide +kernel
theorem dX12_layToCome_5 : decode cX12_layToCome 5 = .ok (.ishl, 1) := by decide +kernel
theorem dX12_layToCome_6 : decode cX12_layToCome 6 = .ok (.iconst 1, 1) := by decide +kernel
theorem dX12_layToCome_7 : decode cX12_layToCome 7 = .ok (.isub, 1) := by decide +kernel
theorem dX12_layToCome_8 : decode cX12_layToCome 8 = .ok (.istore_n 1, 1) := by decide +kernel
theorem dX12_layToCome_9 : decode cX12_layToCome 9 = .ok (.iload_n 1, 1) := by decide +kernel
theorem dX12_layToCome_10 : decode cX12_layToCome 10 = .ok (.istore_n 2, 1) := by decide +kernel
theorem dX12_layToCome_11 : decode cX12_layToCome 11 = .ok (.iload_n 2, 1) := by decide +kernel
theorem dX12_layToCome_12 : decode cX12_layToCome 12 = .ok (.ifCond .le 144, 3) := by decide +kernel
theorem dX12_layToCome_15 : decode cX12_layToCome 15 = .ok (.iconst 0, 1) := by decide +kernel
theorem dX12_layToCome_16 : decode cX12_layToCome 16 = .ok (.istore_n 3, 1) := by decide +kernel
theorem dX12_layToCome_17 : decode cX12_layToCome 17 = .ok (.iload_n 3, 1) := by decide +kernel
theorem dX12_layToCome_18 : decode cX12_layToCome 18 = .ok (.aload_n 0, 1) := by decide +kernel
theorem dX12_layToCome_19 : decode cX12_layToCome 19 = .ok (.getfield 368, 3) := by decide +kernel
theorem dX12_layToCome_22 : decode cX12_layToCome 22 = .ok (.if_icmp .ge 128, 3) := by decide +kernel
theorem dX12_layToCome_25 : decode cX12_layToCome 25 = .ok (.iload_n 2, 1) := by decide +kernel
theorem dX12_layToCome_26 : decode cX12_layToCome 26 = .ok (.iload_n 1, 1) := by decide +kernel
theorem dX12_layToCome_27 : decode cX12_layToCome 27 = .ok (.if_icmp .ne 7, 3) := by decide +kernel
theorem dX12_layToCome_30 : decode cX12_layToCome 30 = .ok (.iconst 0, 1) := by decide +kernel
theorem dX12_layToCome_31 : decode cX12_layToCome 31 = .ok (.goto 6, 3) := by decide +kernel
theorem dX12_layToCome_34 : decode cX12_layToCome 34 = .ok (.ldc_w 371, 3) := by decide +kernel
theorem dX12_layToCome_37 : decode cX12_layToCome 37 = .ok (.istore 4, 2) := by decide +kernel
theorem dX12_layToCome_39 : decode cX12_layToCome 39 = .ok (.iconst 0, 1) := by decide +kernel
theorem dX12_layToCome_40 : decode cX12_layToCome 40 = .ok (.istore 5, 2) := by decide +kernel
theorem dX12_layToCome_42 : decode cX12_layToCome 42 = .ok (.iload 5, 2) := by decide +kernel
theorem dX12_layToCome_44 : decode cX12_layToCome 44 = .ok (.aload_n 0, 1) := by decide +kernel
theorem dX12_layToCome_45 : decode cX12_layToCome 45 = .ok (.getfield 368, 3) := by decide +kernel
theorem dX12_layToCome_48 : decode cX12_layToCome 48 = .ok (.if_icmp .ge 83, 3) := by decide +kernel
theorem dX12_layToCome_51 : decode cX12_layToCome 51 = .ok (.aload_n 0, 1) := by decide +kernel
theorem dX12_layToCome_52 : decode cX12_layToCome 52 = .ok (.getfield 105, 3) := by decide +kernel
theorem dX12_layToCome_55 : decode cX12_layToCome 55 = .ok (.bipush 8, 2) := by decide +kernel
theorem dX12_layToCome_57 : decode cX12_layToCome 57 = .ok (.iload_n 3, 1) := by decide +kernel
theorem dX12_layToCome_58 : decode cX12_layToCome 58 = .ok (.imul, 1) := by decide +kernel
theorem dX12_layToCome_59 : decode cX12_layToCome 59 = .ok (.iload 5, 2) := by decide +kernel
theorem dX12_layToCome_61 : decode cX12_layToCome 61 = .ok (.iadd, 1) := by decide +kernel
theorem dX12_layToCome_62 : decode cX12_layToCome 62 = .ok (.iaload, 1) := by decide +kernel
theorem dX12_layToCome_63 : decode cX12_layToCome 63 = .ok (.istore 6, 2) := by decide +kernel
theorem dX12_layToCome_65 : decode cX12_layToCome 65 = .ok (.iload_n 2, 1) := by decide +kernel
theorem dX12_layToCome_66 : decode cX12_layToCome 66 = .ok (.iload 5, 2) := by decide +kernel
theorem dX12_layToCome_68 : decode cX12_layToCome 68 = .ok (.invokestatic 372, 3) := by decide +kernel
theorem dX12_layToCome_71 : decode cX12_layToCome 71 = .ok (.ifCond .ne 10, 3) := by decide +kernel
theorem dX12_layToCome_74 : decode cX12_layToCome 74 = .ok (.iload 6, 2) := by decide +kernel
theorem dX12_layToCome_76 : decode cX12_layToCome 76 = .ok (.bipush (-9), 2) := by decide +kernel
theorem dX12_layToCome_78 : decode cX12_layToCome 78 = .ok (.if_icmp .ne 9, 3) := by decide +kernel
theorem dX12_layToCome_81 : decode cX12_layToCome 81 = .ok (.ldc_w 371, 3) := by decide +kernel
theorem dX12_layToCome_84 : decode cX12_layToCome 84 = .ok (.goto 23, 3) := by decide +kernel
theorem dX12_layToCome_87 : decode cX12_layToCome 87 = .ok (.iload 6, 2) := by decide +kernel
theorem dX12_layToCome_89 : decode cX12_layToCome 89 = .ok (.aload_n 0, 1) := by decide +kernel
theorem dX12_layToCome_90 : decode cX12_layToCome 90 = .ok (.getfield 108, 3) := by decide +kernel
theorem dX12_layToCome_93 : decode cX12_layToCome 93 = .ok (.bipush 8, 2) := by decide +kernel
theorem dX12_layToCome_95 : decode cX12_layToCome 95 = .ok (.iload_n 2, 1) := by decide +kernel
theorem dX12_layToCome_96 : decode cX12_layToCome 96 = .ok (.iconst 1, 1) := by decide +kernel
theorem dX12_layToCome_97 : decode cX12_layToCome 97 = .ok (.iload 5, 2) := by decide +kernel
theorem dX12_layToCome_99 : decode cX12_layToCome 99 = .ok (.ishl, 1) := by decide +kernel
theorem dX12_layToCome_100 : decode cX12_layToCome 100 = .ok (.ior, 1) := by decide +kernel
theorem dX12_layToCome_101 : decode cX12_layToCome 101 = .ok (.imul, 1) := by decide +kernel
theorem dX12_layToCome_102 : decode cX12_layToCome 102 = .ok (.iload 5, 2) := by decide +kernel
theorem dX12_layToCome_104 : decode cX12_layToCome 104 = .ok (.iadd, 1) := by decide +kernel
theorem dX12_layToCome_105 : decode cX12_layToCome 105 = .ok (.iaload, 1) := by decide +kernel
theorem dX12_layToCome_106 : decode cX12_layToCome 106 = .ok (.iadd, 1) := by decide +kernel
theorem dX12_layToCome_107 : decode cX12_layToCome 107 = .ok (.istore 7, 2) := by decide +kernel
theorem dX12_layToCome_109 : decode cX12_layToCome 109 = .ok (.iload 7, 2) := by decide +kernel
theorem dX12_layToCome_111 : decode cX12_layToCome 111 = .ok (.iload 4, 2) := by decide +kernel
theorem dX12_layToCome_113 : decode cX12_layToCome 113 = .ok (.if_icmp .ge 8, 3) := by decide +kernel
theorem dX12_layToCome_116 : decode cX12_layToCome 116 = .ok (.iload 7, 2) := by decide +kernel
theorem dX12_layToCome_118 : decode cX12_layToCome 118 = .ok (.goto 5, 3) := by decide +kernel
theorem dX12_layToCome_121 : decode cX12_layToCome 121 = .ok (.iload 4, 2) := by decide +kernel
theorem dX12_layToCome_123 : decode cX12_layToCome 123 = .ok (.istore 4, 2) := by decide +kernel
theorem dX12_layToCome_125 : decode cX12_layToCome 125 = .ok (.iinc 5 1, 3) := by decide +kernel
theorem dX12_layToCome_128 : decode cX12_layToCome 128 = .ok (.goto (-86), 3) := by decide +kernel
theorem dX12_layToCome_131 : decode cX12_layToCome 131 = .ok (.aload_n 0, 1) := by decide +kernel
theorem dX12_layToCome_132 : decode cX12_layToCome 132 = .ok (.getfield 108, 3) := by decide +kernel
theorem dX12_layToCome_135 : decode cX12_layToCome 135 = .ok (.bipush 8, 2) := by decide +kernel
theorem dX12_layToCome_137 : decode cX12_layToCome 137 = .ok (.iload_n 2, 1) := by decide +kernel
theorem dX12_layToCome_138 : decode cX12_layToCome 138 = .ok (.imul, 1) := by decide +kernel
theorem dX12_layToCome_139 : decode cX12_layToCome 139 = .ok (.iload_n 3, 1) := by decide +kernel
theorem dX12_layToCome_140 : decode cX12_layToCome 140 = .ok (.iadd, 1) := by decide +kernel
theorem dX12_layToCome_141 : decode cX12_layToCome 141 = .ok (.iload 4, 2) := by decide +kernel
theorem dX12_layToCome_143 : decode cX12_layToCome 143 = .ok (.iastore, 1) := by decide +kernel
theorem dX12_layToCome_144 : decode cX12_layToCome 144 = .ok (.iinc 3 1, 3) := by decide +kernel
theorem dX12_layToCome_147 : decode cX12_layToCome 147 = .ok (.goto (-130), 3) := by decide +kernel
theorem dX12_layToCome_150 : decode cX12_layToCome 150 = .ok (.iinc 2 (-1), 3) := by decide +kernel
theorem dX12_layToCome_153 : decode cX12_layToCome 153 = .ok (.goto (-142), 3) := by decide +kernel
theorem dX12_layToCome_156 : decode cX12_layToCome 156 = .ok (.return_, 1) := by decide +kernel
theorem dX12_order_0 : decode cX12_order 0 = .ok (.iload_n 1, 1) := by decide +kernel
theorem dX12_order_1 : decode cX12_order 1 = .ok (.iconst 1, 1) := by decide +kernel
theorem dX12_order_2 : decode cX12_order 2 = .ok (.iconst 1, 1) := by decide +kernel
theorem dX12_order_3 : decode cX12_order 3 = .ok (.aload_n 0, 1) := by decide +kernel
theorem dX12_order_4 : decode cX12_order 4 = .ok (.getfield 202, 3) := by decide +kernel
theorem dX12_order_7 : decode cX12_order 7 = .ok (.ishl, 1) := by decide +kernel
theorem dX12_order_8 : decode cX12_order 8 = .ok (.iconst 1, 1) := by decide +kernel
theorem dX12_order_9 : decode cX12_order 9 = .ok (.isub, 1) := by decide +kernel
theorem dX12_order_10 : decode cX12_order 10 = .ok (.invokestatic 131, 3) := by decide +kernel
theorem dX12_order_13 : decode cX12_order 13 = .ok (.ifCond .eq 19, 3) := by decide +kernel
theorem dX12_order_16 : decode cX12_order 16 = .ok (.iload_n 1, 1) := by decide +kernel
theorem dX12_order_17 : decode cX12_order 17 = .ok (.invokestatic 266, 3) := by decide +kernel
theorem dX12_order_20 : decode cX12_order 20 = .ok (.bipush 8, 2) := by decide +kernel
theorem dX12_order_22 : decode cX12_order 22 = .ok (.if_icmp .gt 10, 3) := by decide +kernel
theorem dX12_order_25 : decode cX12_order 25 = .ok (.iload_n 2, 1) := by decide +kernel
theorem dX12_order_26 : decode cX12_order 26 = .ok (.invokestatic 141, 3) := by decide +kernel
theorem dX12_order_29 : decode cX12_order 29 = .ok (.ifCond .ne 5, 3) := by decide +kernel
theorem dX12_order_32 : decode cX12_order 32 = .ok (.iconst (-1), 1) := by decide +kernel
theorem dX12_order_33 : decode cX12_order 33 = .ok (.ireturn, 1) := by decide +kernel
theorem dX12_order_34 : decode cX12_order 34 = .ok (.iconst 1, 1) := by decide +kernel
theorem dX12_order_35 : decode cX12_order 35 = .ok (.istore_n 3, 1) := by decide +kernel
theorem dX12_order_36 : decode cX12_order 36 = .ok (.aload_n 0, 1) := by decide +kernel
theorem dX12_order_37 : decode cX12_order 37 = .ok (.iconst 0, 1) := by decide +kernel
theorem dX12_order_38 : decode cX12_order 38 = .ok (.putfield 368, 3) := by decide +kernel
theorem dX12_order_41 : decode cX12_order 41 = .ok (.iconst 0, 1) := by decide +kernel
theorem dX12_order_42 : decode cX12_order 42 = .ok (.istore 4, 2) := by decide +kernel
theorem dX12_order_44 : decode cX12_order 44 = .ok (.iload 4, 2) := by decide +kernel
theorem dX12_order_46 : decode cX12_order 46 = .ok (.aload_n 0, 1) := by decide +kernel
theorem dX12_order_47 : decode cX12_order 47 = .ok (.getfield 202, 3) := by decide +kernel
theorem dX12_order_50 : decode cX12_order 50 = .ok (.if_icmp .ge 58, 3) := by decide +kernel
theorem dX12_order_53 : decode cX12_order 53 = .ok (.iload_n 1, 1) := by decide +kernel
theorem dX12_order_54 : decode cX12_order 54 = .ok (.iload 4, 2) := by decide +kernel
theorem dX12_order_56 : decode cX12_order 56 = .ok (.invokestatic 372, 3) := by decide +kernel
theorem dX12_order_59 : decode cX12_order 59 = .ok (.ifCond .eq 43, 3) := by decide +kernel
theorem dX12_order_62 : decode cX12_order 62 = .ok (.iload_n 3, 1) := by decide +kernel
theorem dX12_order_63 : decode cX12_order 63 = .ok (.ifCond .eq 16, 3) := by decide +kernel
theorem dX12_order_66 : decode cX12_order 66 = .ok (.aload_n 0, 1) := by decide +kernel
theorem dX12_order_67 : decode cX12_order 67 = .ok (.iload 4, 2) := by decide +kernel
theorem dX12_order_69 : decode cX12_order 69 = .ok (.invokevirtual 293, 3) := by decide +kernel
theorem dX12_order_72 : decode cX12_order 72 = .ok (.ifCond .eq 7, 3) := by decide +kernel
theorem dX12_order_75 : decode cX12_order 75 = .ok (.iconst 1, 1) := by decide +kernel
theorem dX12_order_76 : decode cX12_order 76 = .ok (.goto 4, 3) := by decide +kernel
theorem dX12_order_79 : decode cX12_order 79 = .ok (.iconst 0, 1) := by decide +kernel
theorem dX12_order_80 : decode cX12_order 80 = .ok (.istore_n 3, 1) := by decide +kernel
theorem dX12_order_81 : decode cX12_order 81 = .ok (.aload_n 0, 1) := by decide +kernel
theorem dX12_order_82 : decode cX12_order 82 = .ok (.getfield 102, 3) := by decide +kernel
theorem dX12_order_85 : decode cX12_order 85 = .ok (.aload_n 0, 1) := by decide +kernel
theorem dX12_order_86 : decode cX12_order 86 = .ok (.getfield 368, 3) := by decide +kernel
theorem dX12_order_89 : decode cX12_order 89 = .ok (.iload 4, 2) := by decide +kernel
theorem dX12_order_91 : decode cX12_order 91 = .ok (.iastore, 1) := by decide +kernel
theorem dX12_order_92 : decode cX12_order 92 = .ok (.aload_n 0, 1) := by decide +kernel
theorem dX12_order_93 : decode cX12_order 93 = .ok (.dup, 1) := by decide +kernel
theorem dX12_order_94 : decode cX12_order 94 = .ok (.getfield 368, 3) := by decide +kernel
theorem dX12_order_97 : decode cX12_order 97 = .ok (.iconst 1, 1) := by decide +kernel
theorem dX12_order_98 : decode cX12_order 98 = .ok (.iadd, 1) := by decide +kernel
theorem dX12_order_99 : decode cX12_order 99 = .ok (.putfield 368, 3) := by decide +kernel
theorem dX12_order_102 : decode cX12_order 102 = .ok (.iinc 4 1, 3) := by decide +kernel
theorem dX12_order_105 : decode cX12_order 105 = .ok (.goto (-61), 3) := by decide +kernel
theorem dX12_order_108 : decode cX12_order 108 = .ok (.iload_n 3, 1) := by decide +kernel
theorem dX12_order_109 : decode cX12_order 109 = .ok (.ifCond .ne 9, 3) := by decide +kernel
theorem dX12_order_112 : decode cX12_order 112 = .ok (.aload_n 0, 1) := by decide +kernel
theorem dX12_order_113 : decode cX12_order 113 = .ok (.iconst 3, 1) := by decide +kernel
theorem dX12_order_114 : decode cX12_order 114 = .ok (.invokevirtual 145, 3) := by decide +kernel
theorem dX12_order_117 : decode cX12_order 117 = .ok (.ireturn, 1) := by decide +kernel
theorem dX12_order_118 : decode cX12_order 118 = .ok (.aload_n 0, 1) := by decide +kernel
theorem dX12_order_119 : decode cX12_order 119 = .ok (.invokevirtual 329, 3) := by decide +kernel
theorem dX12_order_122 : decode cX12_order 122 = .ok (.sipush 4096, 3) := by decide +kernel
theorem dX12_order_125 : decode cX12_order 125 = .ok (.if_icmp .le 6, 3) := by decide +kernel
theorem dX12_order_128 : decode cX12_order 128 = .ok (.bipush (-6), 2) := by decide +kernel
theorem dX12_order_130 : decode cX12_order 130 = .ok (.ireturn, 1) := by decide +kernel
theorem dX12_order_131 : decode cX12_order 131 = .ok (.aload_n 0, 1) := by decide +kernel
theorem dX12_order_132 : decode cX12_order 132 = .ok (.bipush (-9), 2) := by decide +kernel
theorem dX12_order_134 : decode cX12_order 134 = .ok (.iconst 0, 1) := by decide +kernel
theorem dX12_order_135 : decode cX12_order 135 = .ok (.invokevirtual 359, 3) := by decide +kernel
theorem dX12_order_138 : decode cX12_order 138 = .ok (.iconst 0, 1) := by decide +kernel
theorem dX12_order_139 : decode cX12_order 139 = .ok (.istore 4, 2) := by decide +kernel
theorem dX12_order_141 : decode cX12_order 141 = .ok (.iload 4, 2) := by decide +kernel
theorem dX12_order_143 : decode cX12_order 143 = .ok (.aload_n 0, 1) := by decide +kernel
theorem dX12_order_144 : decode cX12_order 144 = .ok (.getfield 368, 3) := by decide +kernel
theorem dX12_order_147 : decode cX12_order 147 = .ok (.if_icmp .ge 66, 3) := by decide +kernel
theorem dX12_order_150 : decode cX12_order 150 = .ok (.iconst 0, 1) := by decide +kernel
theorem dX12_order_151 : decode cX12_order 151 = .ok (.istore 5, 2) := by decide +kernel
theorem dX12_order_153 : decode cX12_order 153 = .ok (.iload 5, 2) := by decide +kernel
theorem dX12_order_155 : decode cX12_order 155 = .ok (.aload_n 0, 1) := by decide +kernel
theorem dX12_order_156 : decode cX12_order 156 = .ok (.getfield 368, 3) := by decide +kernel
theorem dX12_order_159 : decode cX12_order 159 = .ok (.if_icmp .ge 48, 3) := by decide +kernel
theorem dX12_order_162 : decode cX12_order 162 = .ok (.aload_n 0, 1) := by decide +kernel
theorem dX12_order_163 : decode cX12_order 163 = .ok (.getfield 105, 3) := by decide +kernel
theorem dX12_order_166 : decode cX12_order 166 = .ok (.bipush 8, 2) := by decide +kernel
theorem dX12_order_168 : decode cX12_order 168 = .ok (.iload 4, 2) := by decide +kernel
theorem dX12_order_170 : decode cX12_order 170 = .ok (.imul, 1) := by decide +kernel
theorem dX12_order_171 : decode cX12_order 171 = .ok (.iload 5, 2) := by decide +kernel
theorem dX12_order_173 : decode cX12_order 173 = .ok (.iadd, 1) := by decide +kernel
theorem dX12_order_174 : decode cX12_order 174 = .ok (.aload_n 0, 1) := by decide +kernel
theorem dX12_order_175 : decode cX12_order 175 = .ok (.aload_n 0, 1) := by decide +kernel
theorem dX12_order_176 : decode cX12_order 176 = .ok (.aload_n 0, 1) := by decide +kernel
theorem dX12_order_177 : decode cX12_order 177 = .ok (.getfield 102, 3) := by decide +kernel
theorem dX12_order_180 : decode cX12_order 180 = .ok (.iload 4, 2) := by decide +kernel
theorem dX12_order_182 : decode cX12_order 182 = .ok (.iaload, 1) := by decide +kernel
theorem dX12_order_183 : decode cX12_order 183 = .ok (.invokevirtual 362, 3) := by decide +kernel
theorem dX12_order_186 : decode cX12_order 186 = .ok (.aload_n 0, 1) := by decide +kernel
theorem dX12_order_187 : decode cX12_order 187 = .ok (.aload_n 0, 1) := by decide +kernel
theorem dX12_order_188 : decode cX12_order 188 = .ok (.getfield 102, 3) := by decide +kernel
theorem dX12_order_191 : decode cX12_order 191 = .ok (.iload 5, 2) := by decide +kernel
theorem dX12_order_193 : decode cX12_order 193 = .ok (.iaload, 1) := by decide +kernel
theorem dX12_order_194 : decode cX12_order 194 = .ok (.invokevirtual 362, 3) := by decide +kernel
theorem dX12_order_197 : decode cX12_order 197 = .ok (.invokevirtual 365, 3) := by decide +kernel
theorem dX12_order_200 : decode cX12_order 200 = .ok (.iastore, 1) := by decide +kernel
theorem dX12_order_201 : decode cX12_order 201 = .ok (.iinc 5 1, 3) := by decide +kernel
theorem dX12_order_204 : decode cX12_order 204 = .ok (.goto (-51), 3) := by decide +kernel
theorem dX12_order_207 : decode cX12_order 207 = .ok (.iinc 4 1, 3) := by decide +kernel
theorem dX12_order_210 : decode cX12_order 210 = .ok (.goto (-69), 3) := by decide +kernel
theorem dX12_order_213 : decode cX12_order 213 = .ok (.aload_n 0, 1) := by decide +kernel
theorem dX12_order_214 : decode cX12_order 214 = .ok (.invokevirtual 375, 3) := by decide +kernel
theorem dX12_order_217 : decode cX12_order 217 = .ok (.aload_n 0, 1) := by decide +kernel
theorem dX12_order_218 : decode cX12_order 218 = .ok (.iload_n 2, 1) := by decide +kernel
theorem dX12_order_219 : decode cX12_order 219 = .ok (.invokevirtual 378, 3) := by decide +kernel
theorem dX12_order_222 : decode cX12_order 222 = .ok (.ireturn, 1) := by decide +kernel
theorem dX12_orderTold_0 : decode cX12_orderTold 0 = .ok (.ldc_w 371, 3) := by decide +kernel
theorem dX12_orderTold_3 : decode cX12_orderTold 3 = .ok (.istore_n 2, 1) := by decide +kernel
theorem dX12_orderTold_4 : decode cX12_orderTold 4 = .ok (.iconst 0, 1) := by decide +kernel
theorem dX12_orderTold_5 : decode cX12_orderTold 5 = .ok (.istore_n 3, 1) := by decide +kernel
theorem dX12_orderTold_6 : decode cX12_orderTold 6 = .ok (.iload_n 3, 1) := by decide +kernel
theorem dX12_orderTold_7 : decode cX12_orderTold 7 = .ok (.aload_n 0, 1) := by decide +kernel
theorem dX12_orderTold_8 : decode cX12_orderTold 8 = .ok (.getfield 368, 3) := by decide +kernel
theorem dX12_orderTold_11 : decode cX12_orderTold 11 = .ok (.if_icmp .ge 57, 3) := by decide +kernel
theorem dX12_orderTold_14 : decode cX12_orderTold 14 = .ok (.aload_n 0, 1) := by decide +kernel
theorem dX12_orderTold_15 : decode cX12_orderTold 15 = .ok (.getfield 105, 3) := by decide +kernel
theorem dX12_orderTold_18 : decode cX12_orderTold 18 = .ok (.bipush 9, 2) := by decide +kernel
theorem dX12_orderTold_20 : decode cX12_orderTold 20 = .ok (.iload_n 3, 1) := by decide +kernel
theorem dX12_orderTold_21 : decode cX12_orderTold 21 = .ok (.imul, 1) := by decide +kernel
theorem dX12_orderTold_22 : decode cX12_orderTold 22 = .ok (.iaload, 1) := by decide +kernel
theorem dX12_orderTold_23 : decode cX12_orderTold 23 = .ok (.bipush (-9), 2) := by decide +kernel
theorem dX12_orderTold_25 : decode cX12_orderTold 25 = .ok (.if_icmp .ne 9, 3) := by decide +kernel
theorem dX12_orderTold_28 : decode cX12_orderTold 28 = .ok (.ldc_w 371, 3) := by decide +kernel
theorem dX12_orderTold_31 : decode cX12_orderTold 31 = .ok (.goto 16, 3) := by decide +kernel
theorem dX12_orderTold_34 : decode cX12_orderTold 34 = .ok (.aload_n 0, 1) := by decide +kernel
theorem dX12_orderTold_35 : decode cX12_orderTold 35 = .ok (.getfield 108, 3) := by decide +kernel
theorem dX12_orderTold_38 : decode cX12_orderTold 38 = .ok (.bipush 8, 2) := by decide +kernel
theorem dX12_orderTold_40 : decode cX12_orderTold 40 = .ok (.iconst 1, 1) := by decide +kernel
theorem dX12_orderTold_41 : decode cX12_orderTold 41 = .ok (.iload_n 3, 1) := by decide +kernel
theorem dX12_orderTold_42 : decode cX12_orderTold 42 = .ok (.ishl, 1) := by decide +kernel
theorem dX12_orderTold_43 : decode cX12_orderTold 43 = .ok (.imul, 1) := by decide +kernel
theorem dX12_orderTold_44 : decode cX12_orderTold 44 = .ok (.iload_n 3, 1) := by decide +kernel
theorem dX12_orderTold_45 : decode cX12_orderTold 45 = .ok (.iadd, 1) := by decide +kernel
theorem dX12_orderTold_46 : decode cX12_orderTold 46 = .ok (.iaload, 1) := by decide +kernel
theorem dX12_orderTold_47 : decode cX12_orderTold 47 = .ok (.istore 4, 2) := by decide +kernel
theorem dX12_orderTold_49 : decode cX12_orderTold 49 = .ok (.iload 4, 2) := by decide +kernel
theorem dX12_orderTold_51 : decode cX12_orderTold 51 = .ok (.iload_n 2, 1) := by decide +kernel
theorem dX12_orderTold_52 : decode cX12_orderTold 52 = .ok (.if_icmp .ge 8, 3) := by decide +kernel
theorem dX12_orderTold_55 : decode cX12_orderTold 55 = .ok (.iload 4, 2) := by decide +kernel
theorem dX12_orderTold_57 : decode cX12_orderTold 57 = .ok (.goto 4, 3) := by decide +kernel
theorem dX12_orderTold_60 : decode cX12_orderTold 60 = .ok (.iload_n 2, 1) := by decide +kernel
theorem dX12_orderTold_61 : decode cX12_orderTold 61 = .ok (.istore_n 2, 1) := by decide +kernel
theorem dX12_orderTold_62 : decode cX12_orderTold 62 = .ok (.iinc 3 1, 3) := by decide +kernel
theorem dX12_orderTold_65 : decode cX12_orderTold 65 = .ok (.goto (-59), 3) := by decide +kernel
theorem dX12_orderTold_68 : decode cX12_orderTold 68 = .ok (.iload_n 2, 1) := by decide +kernel
theorem dX12_orderTold_69 : decode cX12_orderTold 69 = .ok (.ldc_w 371, 3) := by decide +kernel
theorem dX12_orderTold_72 : decode cX12_orderTold 72 = .ok (.if_icmp .lt 6, 3) := by decide +kernel
theorem dX12_orderTold_75 : decode cX12_orderTold 75 = .ok (.bipush (-9), 2) := by decide +kernel
theorem dX12_orderTold_77 : decode cX12_orderTold 77 = .ok (.ireturn, 1) := by decide +kernel
theorem dX12_orderTold_78 : decode cX12_orderTold 78 = .ok (.aload_n 0, 1) := by decide +kernel
theorem dX12_orderTold_79 : decode cX12_orderTold 79 = .ok (.iload_n 1, 1) := by decide +kernel
theorem dX12_orderTold_80 : decode cX12_orderTold 80 = .ok (.aload_n 0, 1) := by decide +kernel
theorem dX12_orderTold_81 : decode cX12_orderTold 81 = .ok (.getfield 368, 3) := by decide +kernel
theorem dX12_orderTold_84 : decode cX12_orderTold 84 = .ok (.invokevirtual 275, 3) := by decide +kernel
theorem dX12_orderTold_87 : decode cX12_orderTold 87 = .ok (.iconst 0, 1) := by decide +kernel
theorem dX12_orderTold_88 : decode cX12_orderTold 88 = .ok (.istore_n 3, 1) := by decide +kernel
theorem dX12_orderTold_89 : decode cX12_orderTold 89 = .ok (.bipush (-9), 2) := by decide +kernel
theorem dX12_orderTold_91 : decode cX12_orderTold 91 = .ok (.istore 4, 2) := by decide +kernel
theorem dX12_orderTold_93 : decode cX12_orderTold 93 = .ok (.iload_n 2, 1) := by decide +kernel
theorem dX12_orderTold_94 : decode cX12_orderTold 94 = .ok (.istore 5, 2) := by decide +kernel
theorem dX12_orderTold_96 : decode cX12_orderTold 96 = .ok (.iconst 0, 1) := by decide +kernel
theorem dX12_orderTold_97 : decode cX12_orderTold 97 = .ok (.istore 6, 2) := by decide +kernel
theorem dX12_orderTold_99 : decode cX12_orderTold 99 = .ok (.iload 6, 2) := by decide +kernel
theorem dX12_orderTold_101 : decode cX12_orderTold 101 = .ok (.aload_n 0, 1) := by decide +kernel
theorem dX12_orderTold_102 : decode cX12_orderTold 102 = .ok (.getfield 368, 3) := by decide +kernel
theorem dX12_orderTold_105 : decode cX12_orderTold 105 = .ok (.if_icmp .ge 173, 3) := by decide +kernel
theorem dX12_orderTold_108 : decode cX12_orderTold 108 = .ok (.iconst 0, 1) := by decide +kernel
theorem dX12_orderTold_109 : decode cX12_orderTold 109 = .ok (.istore 7, 2) := by decide +kernel
theorem dX12_orderTold_111 : decode cX12_orderTold 111 = .ok (.iload_n 3, 1) := by decide +kernel
theorem dX12_orderTold_112 : decode cX12_orderTold 112 = .ok (.iload 7, 2) := by decide +kernel
theorem dX12_orderTold_114 : decode cX12_orderTold 114 = .ok (.invokestatic 372, 3) := by decide +kernel
theorem dX12_orderTold_117 : decode cX12_orderTold 117 = .ok (.ifCond .ne 90, 3) := by decide +kernel
theorem dX12_orderTold_120 : decode cX12_orderTold 120 = .ok (.iload 4, 2) := by decide +kernel
theorem dX12_orderTold_122 : decode cX12_orderTold 122 = .ok (.bipush (-9), 2) := by decide +kernel
theorem dX12_orderTold_124 : decode cX12_orderTold 124 = .ok (.if_icmp .eq 21, 3) := by decide +kernel
theorem dX12_orderTold_127 : decode cX12_orderTold 127 = .ok (.aload_n 0, 1) := by decide +kernel
theorem dX12_orderTold_128 : decode cX12_orderTold 128 = .ok (.getfield 105, 3) := by decide +kernel
theorem dX12_orderTold_131 : decode cX12_orderTold 131 = .ok (.bipush 8, 2) := by decide +kernel
theorem dX12_orderTold_133 : decode cX12_orderTold 133 = .ok (.iload 4, 2) := by decide +kernel
theorem dX12_orderTold_135 : decode cX12_orderTold 135 = .ok (.imul, 1) := by decide +kernel
theorem dX12_orderTold_136 : decode cX12_orderTold 136 = .ok (.iload 7, 2) := by decide +kernel
theorem dX12_orderTold_138 : decode cX12_orderTold 138 = .ok (.iadd, 1) := by decide +kernel
theorem dX12_orderTold_139 : decode cX12_orderTold 139 = .ok (.iaload, 1) := by decide +kernel
theorem dX12_orderTold_140 : decode cX12_orderTold 140 = .ok (.bipush (-9), 2) := by decide +kernel
theorem dX12_orderTold_142 : decode cX12_orderTold 142 = .ok (.if_icmp .eq 65, 3) := by decide +kernel
theorem dX12_orderTold_145 : decode cX12_orderTold 145 = .ok (.aload_n 0, 1) := by decide +kernel
theorem dX12_orderTold_146 : decode cX12_orderTold 146 = .ok (.getfield 105, 3) := by decide +kernel
theorem dX12_orderTold_149 : decode cX12_orderTold 149 = .ok (.bipush 9, 2) := by decide +kernel
theorem dX12_orderTold_151 : decode cX12_orderTold 151 = .ok (.iload 7, 2) := by decide +kernel
theorem dX12_orderTold_153 : decode cX12_orderTold 153 = .ok (.imul, 1) := by decide +kernel
theorem dX12_orderTold_154 : decode cX12_orderTold 154 = .ok (.iaload, 1) := by decide +kernel
theorem dX12_orderTold_155 : decode cX12_orderTold 155 = .ok (.bipush (-9), 2) := by decide +kernel
theorem dX12_orderTold_157 : decode cX12_orderTold 157 = .ok (.if_icmp .eq 50, 3) := by decide +kernel
theorem dX12_orderTold_160 : decode cX12_orderTold 160 = .ok (.iload 4, 2) := by decide +kernel
theorem dX12_orderTold_162 : decode cX12_orderTold 162 = .ok (.bipush (-9), 2) := by decide +kernel
theorem dX12_orderTold_164 : decode cX12_orderTold 164 = .ok (.if_icmp .ne 7, 3) := by decide +kernel
theorem dX12_orderTold_167 : decode cX12_orderTold 167 = .ok (.iconst 0, 1) := by decide +kernel
theorem dX12_orderTold_168 : decode cX12_orderTold 168 = .ok (.goto 16, 3) := by decide +kernel
theorem dX12_orderTold_171 : decode cX12_orderTold 171 = .ok (.aload_n 0, 1) := by decide +kernel
theorem dX12_orderTold_172 : decode cX12_orderTold 172 = .ok (.getfield 105, 3) := by decide +kernel
theorem dX12_orderTold_175 : decode cX12_orderTold 175 = .ok (.bipush 8, 2) := by decide +kernel
theorem dX12_orderTold_177 : decode cX12_orderTold 177 = .ok (.iload 4, 2) := by decide +kernel
theorem dX12_orderTold_179 : decode cX12_orderTold 179 = .ok (.imul, 1) := by decide +kernel
theorem dX12_orderTold_180 : decode cX12_orderTold 180 = .ok (.iload 7, 2) := by decide +kernel
theorem dX12_orderTold_182 : decode cX12_orderTold 182 = .ok (.iadd, 1) := by decide +kernel
theorem dX12_orderTold_183 : decode cX12_orderTold 183 = .ok (.iaload, 1) := by decide +kernel
theorem dX12_orderTold_184 : decode cX12_orderTold 184 = .ok (.aload_n 0, 1) := by decide +kernel
theorem dX12_orderTold_185 : decode cX12_orderTold 185 = .ok (.getfield 108, 3) := by decide +kernel
theorem dX12_orderTold_188 : decode cX12_orderTold 188 = .ok (.bipush 8, 2) := by decide +kernel
theorem dX12_orderTold_190 : decode cX12_orderTold 190 = .ok (.iload_n 3, 1) := by decide +kernel
theorem dX12_orderTold_191 : decode cX12_orderTold 191 = .ok (.iconst 1, 1) := by decide +kernel
theorem dX12_orderTold_192 : decode cX12_orderTold 192 = .ok (.iload 7, 2) := by decide +kernel
theorem dX12_orderTold_194 : decode cX12_orderTold 194 = .ok (.ishl, 1) := by decide +kernel
theorem dX12_orderTold_195 : decode cX12_orderTold 195 = .ok (.ior, 1) := by decide +kernel
theorem dX12_orderTold_196 : decode cX12_orderTold 196 = .ok (.imul, 1) := by decide +kernel
theorem dX12_orderTold_197 : decode cX12_orderTold 197 = .ok (.iload 7, 2) := by decide +kernel
theorem dX12_orderTold_199 : decode cX12_orderTold 199 = .ok (.iadd, 1) := by decide +kernel
theorem dX12_orderTold_200 : decode cX12_orderTold 200 = .ok (.iaload, 1) := by decide +kernel
theorem dX12_orderTold_201 : decode cX12_orderTold 201 = .ok (.iadd, 1) := by decide +kernel
theorem dX12_orderTold_202 : decode cX12_orderTold 202 = .ok (.iload 5, 2) := by decide +kernel
theorem dX12_orderTold_204 : decode cX12_orderTold 204 = .ok (.if_icmp .eq 9, 3) := by decide +kernel
theorem dX12_orderTold_207 : decode cX12_orderTold 207 = .ok (.iinc 7 1, 3) := by decide +kernel
theorem dX12_orderTold_210 : decode cX12_orderTold 210 = .ok (.goto (-99), 3) := by decide +kernel
theorem dX12_orderTold_213 : decode cX12_orderTold 213 = .ok (.iload 5, 2) := by decide +kernel
theorem dX12_orderTold_215 : decode cX12_orderTold 215 = .ok (.iload 4, 2) := by decide +kernel
theorem dX12_orderTold_217 : decode cX12_orderTold 217 = .ok (.bipush (-9), 2) := by decide +kernel
theorem dX12_orderTold_219 : decode cX12_orderTold 219 = .ok (.if_icmp .ne 7, 3) := by decide +kernel
theorem dX12_orderTold_222 : decode cX12_orderTold 222 = .ok (.iconst 0, 1) := by decide +kernel
theorem dX12_orderTold_223 : decode cX12_orderTold 223 = .ok (.goto 16, 3) := by decide +kernel
theorem dX12_orderTold_226 : decode cX12_orderTold 226 = .ok (.aload_n 0, 1) := by decide +kernel
theorem dX12_orderTold_227 : decode cX12_orderTold 227 = .ok (.getfield 105, 3) := by decide +kernel
theorem dX12_orderTold_230 : decode cX12_orderTold 230 = .ok (.bipush 8, 2) := by decide +kernel
theorem dX12_orderTold_232 : decode cX12_orderTold 232 = .ok (.iload 4, 2) := by decide +kernel
theorem dX12_orderTold_234 : decode cX12_orderTold 234 = .ok (.imul, 1) := by decide +kernel
theorem dX12_orderTold_235 : decode cX12_orderTold 235 = .ok (.iload 7, 2) := by decide +kernel
theorem dX12_orderTold_237 : decode cX12_orderTold 237 = .ok (.iadd, 1) := by decide +kernel
theorem dX12_orderTold_238 : decode cX12_orderTold 238 = .ok (.iaload, 1) := by decide +kernel
theorem dX12_orderTold_239 : decode cX12_orderTold 239 = .ok (.isub, 1) := by decide +kernel
theorem dX12_orderTold_240 : decode cX12_orderTold 240 = .ok (.istore 5, 2) := by decide +kernel
theorem dX12_orderTold_242 : decode cX12_orderTold 242 = .ok (.iload_n 3, 1) := by decide +kernel
theorem dX12_orderTold_243 : decode cX12_orderTold 243 = .ok (.iconst 1, 1) := by decide +kernel
theorem dX12_orderTold_244 : decode cX12_orderTold 244 = .ok (.iload 7, 2) := by decide +kernel
theorem dX12_orderTold_246 : decode cX12_orderTold 246 = .ok (.ishl, 1) := by decide +kernel
theorem dX12_orderTold_247 : decode cX12_orderTold 247 = .ok (.ior, 1) := by decide +kernel
theorem dX12_orderTold_248 : decode cX12_orderTold 248 = .ok (.istore_n 3, 1) := by decide +kernel
theorem dX12_orderTold_249 : decode cX12_orderTold 249 = .ok (.iload 7, 2) := by decide +kernel
theorem dX12_orderTold_251 : decode cX12_orderTold 251 = .ok (.istore 4, 2) := by decide +kernel
theorem dX12_orderTold_253 : decode cX12_orderTold 253 = .ok (.aload_n 0, 1) := by decide +kernel
theorem dX12_orderTold_254 : decode cX12_orderTold 254 = .ok (.getfield 16, 3) := by decide +kernel
theorem dX12_orderTold_257 : decode cX12_orderTold 257 = .ok (.bipush 40, 2) := by decide +kernel
theorem dX12_orderTold_259 : decode cX12_orderTold 259 = .ok (.iload_n 1, 1) := by decide +kernel
theorem dX12_orderTold_260 : decode cX12_orderTold 260 = .ok (.imul, 1) := by decide +kernel
theorem dX12_orderTold_261 : decode cX12_orderTold 261 = .ok (.iload 6, 2) := by decide +kernel
theorem dX12_orderTold_263 : decode cX12_orderTold 263 = .ok (.iadd, 1) := by decide +kernel
theorem dX12_orderTold_264 : decode cX12_orderTold 264 = .ok (.aload_n 0, 1) := by decide +kernel
theorem dX12_orderTold_265 : decode cX12_orderTold 265 = .ok (.getfield 102, 3) := by decide +kernel
theorem dX12_orderTold_268 : decode cX12_orderTold 268 = .ok (.iload 7, 2) := by decide +kernel
theorem dX12_orderTold_270 : decode cX12_orderTold 270 = .ok (.iaload, 1) := by decide +kernel
theorem dX12_orderTold_271 : decode cX12_orderTold 271 = .ok (.iastore, 1) := by decide +kernel
theorem dX12_orderTold_272 : decode cX12_orderTold 272 = .ok (.iinc 6 1, 3) := by decide +kernel
theorem dX12_orderTold_275 : decode cX12_orderTold 275 = .ok (.goto (-176), 3) := by decide +kernel
theorem dX12_orderTold_278 : decode cX12_orderTold 278 = .ok (.iload_n 2, 1) := by decide +kernel
theorem dX12_orderTold_279 : decode cX12_orderTold 279 = .ok (.ireturn, 1) := by decide +kernel
theorem dX12_two_0 : decode cX12_two 0 = .ok (.iload_n 1, 1) := by decide +kernel
theorem dX12_two_1 : decode cX12_two 1 = .ok (.invokestatic 317, 3) := by decide +kernel
theorem dX12_two_4 : decode cX12_two 4 = .ok (.ifCond .eq 10, 3) := by decide +kernel
theorem dX12_two_7 : decode cX12_two 7 = .ok (.iload_n 2, 1) := by decide +kernel
theorem dX12_two_8 : decode cX12_two 8 = .ok (.invokestatic 317, 3) := by decide +kernel
theorem dX12_two_11 : decode cX12_two 11 = .ok (.ifCond .ne 5, 3) := by decide +kernel
theorem dX12_two_14 : decode cX12_two 14 = .ok (.iconst (-1), 1) := by decide +kernel
theorem dX12_two_15 : decode cX12_two 15 = .ok (.ireturn, 1) := by decide +kernel
theorem dX12_two_16 : decode cX12_two 16 = .ok (.aload_n 0, 1) := by decide +kernel
theorem dX12_two_17 : decode cX12_two 17 = .ok (.getfield 193, 3) := by decide +kernel
theorem dX12_two_20 : decode cX12_two 20 = .ok (.iconst 2, 1) := by decide +kernel
theorem dX12_two_21 : decode cX12_two 21 = .ok (.if_icmp .eq 6, 3) := by decide +kernel
theorem dX12_two_24 : decode cX12_two 24 = .ok (.bipush (-4), 2) := by decide +kernel
theorem dX12_two_26 : decode cX12_two 26 = .ok (.ireturn, 1) := by decide +kernel
theorem dX12_two_27 : decode cX12_two 27 = .ok (.aload_n 0, 1) := by decide +kernel
theorem dX12_two_28 : decode cX12_two 28 = .ok (.getfield 68, 3) := by decide +kernel
theorem dX12_two_31 : decode cX12_two 31 = .ok (.iload_n 1, 1) := by decide +kernel
theorem dX12_two_32 : decode cX12_two 32 = .ok (.baload, 1) := by decide +kernel
theorem dX12_two_33 : decode cX12_two 33 = .ok (.ifCond .eq 12, 3) := by decide +kernel
theorem dX12_two_36 : decode cX12_two 36 = .ok (.aload_n 0, 1) := by decide +kernel
theorem dX12_two_37 : decode cX12_two 37 = .ok (.getfield 68, 3) := by decide +kernel
theorem dX12_two_40 : decode cX12_two 40 = .ok (.iload_n 2, 1) := by decide +kernel
theorem dX12_two_41 : decode cX12_two 41 = .ok (.baload, 1) := by decide +kernel
theorem dX12_two_42 : decode cX12_two 42 = .ok (.ifCond .ne 9, 3) := by decide +kernel
theorem dX12_two_45 : decode cX12_two 45 = .ok (.aload_n 0, 1) := by decide +kernel
theorem dX12_two_46 : decode cX12_two 46 = .ok (.iconst 1, 1) := by decide +kernel
theorem dX12_two_47 : decode cX12_two 47 = .ok (.invokevirtual 145, 3) := by decide +kernel
theorem dX12_two_50 : decode cX12_two 50 = .ok (.ireturn, 1) := by decide +kernel
theorem dX12_two_51 : decode cX12_two 51 = .ok (.aload_n 0, 1) := by decide +kernel
theorem dX12_two_52 : decode cX12_two 52 = .ok (.invokevirtual 329, 3) := by decide +kernel
theorem dX12_two_55 : decode cX12_two 55 = .ok (.sipush 4096, 3) := by decide +kernel
theorem dX12_two_58 : decode cX12_two 58 = .ok (.if_icmp .le 6, 3) := by decide +kernel
theorem dX12_two_61 : decode cX12_two 61 = .ok (.bipush (-6), 2) := by decide +kernel
theorem dX12_two_63 : decode cX12_two 63 = .ok (.ireturn, 1) := by decide +kernel
theorem dX12_two_64 : decode cX12_two 64 = .ok (.aload_n 0, 1) := by decide +kernel
theorem dX12_two_65 : decode cX12_two 65 = .ok (.iload_n 1, 1) := by decide +kernel
theorem dX12_two_66 : decode cX12_two 66 = .ok (.iconst 0, 1) := by decide +kernel
theorem dX12_two_67 : decode cX12_two 67 = .ok (.bipush (-9), 2) := by decide +kernel
theorem dX12_two_69 : decode cX12_two 69 = .ok (.invokevirtual 342, 3) := by decide +kernel
theorem dX12_two_72 : decode cX12_two 72 = .ok (.istore_n 3, 1) := by decide +kernel
theorem dX12_two_73 : decode cX12_two 73 = .ok (.aload_n 0, 1) := by decide +kernel
theorem dX12_two_74 : decode cX12_two 74 = .ok (.iload_n 2, 1) := by decide +kernel
theorem dX12_two_75 : decode cX12_two 75 = .ok (.iconst 1, 1) := by decide +kernel
theorem dX12_two_76 : decode cX12_two 76 = .ok (.bipush (-9), 2) := by decide +kernel
theorem dX12_two_78 : decode cX12_two 78 = .ok (.invokevirtual 342, 3) := by decide +kernel
theorem dX12_two_81 : decode cX12_two 81 = .ok (.istore 4, 2) := by decide +kernel
theorem dX12_two_83 : decode cX12_two 83 = .ok (.iload_n 3, 1) := by decide +kernel
theorem dX12_two_84 : decode cX12_two 84 = .ok (.bipush (-9), 2) := by decide +kernel
theorem dX12_two_86 : decode cX12_two 86 = .ok (.if_icmp .eq 10, 3) := by decide +kernel
theorem dX12_two_89 : decode cX12_two 89 = .ok (.iload 4, 2) := by decide +kernel
theorem dX12_two_91 : decode cX12_two 91 = .ok (.bipush (-9), 2) := by decide +kernel
theorem dX12_two_93 : decode cX12_two 93 = .ok (.if_icmp .ne 6, 3) := by decide +kernel
theorem dX12_two_96 : decode cX12_two 96 = .ok (.bipush (-9), 2) := by decide +kernel
theorem dX12_two_98 : decode cX12_two 98 = .ok (.ireturn, 1) := by decide +kernel
theorem dX12_two_99 : decode cX12_two 99 = .ok (.aload_n 0, 1) := by decide +kernel
theorem dX12_two_100 : decode cX12_two 100 = .ok (.iload_n 2, 1) := by decide +kernel
theorem dX12_two_101 : decode cX12_two 101 = .ok (.iconst 0, 1) := by decide +kernel
theorem dX12_two_102 : decode cX12_two 102 = .ok (.bipush (-9), 2) := by decide +kernel
theorem dX12_two_104 : decode cX12_two 104 = .ok (.invokevirtual 342, 3) := by decide +kernel
theorem dX12_two_107 : decode cX12_two 107 = .ok (.istore 5, 2) := by decide +kernel
theorem dX12_two_109 : decode cX12_two 109 = .ok (.aload_n 0, 1) := by decide +kernel
theorem dX12_two_110 : decode cX12_two 110 = .ok (.iload_n 1, 1) := by decide +kernel
theorem dX12_two_111 : decode cX12_two 111 = .ok (.iconst 1, 1) := by decide +kernel
theorem dX12_two_112 : decode cX12_two 112 = .ok (.bipush (-9), 2) := by decide +kernel
theorem dX12_two_114 : decode cX12_two 114 = .ok (.invokevirtual 342, 3) := by decide +kernel
theorem dX12_two_117 : decode cX12_two 117 = .ok (.istore 6, 2) := by decide +kernel
theorem dX12_two_119 : decode cX12_two 119 = .ok (.iload_n 3, 1) := by decide +kernel
theorem dX12_two_120 : decode cX12_two 120 = .ok (.iload 4, 2) := by decide +kernel
theorem dX12_two_122 : decode cX12_two 122 = .ok (.iadd, 1) := by decide +kernel
theorem dX12_two_123 : decode cX12_two 123 = .ok (.iload 5, 2) := by decide +kernel
theorem dX12_two_125 : decode cX12_two 125 = .ok (.iload 6, 2) := by decide +kernel
theorem dX12_two_127 : decode cX12_two 127 = .ok (.iadd, 1) := by decide +kernel
theorem dX12_two_128 : decode cX12_two 128 = .ok (.if_icmp .gt 15, 3) := by decide +kernel
theorem dX12_two_131 : decode cX12_two 131 = .ok (.aload_n 0, 1) := by decide +kernel
theorem dX12_two_132 : decode cX12_two 132 = .ok (.iload_n 3, 1) := by decide +kernel
theorem dX12_two_133 : decode cX12_two 133 = .ok (.iload 4, 2) := by decide +kernel
theorem dX12_two_135 : decode cX12_two 135 = .ok (.iadd, 1) := by decide +kernel
theorem dX12_two_136 : decode cX12_two 136 = .ok (.iconst 0, 1) := by decide +kernel
theorem dX12_two_137 : decode cX12_two 137 = .ok (.invokevirtual 153, 3) := by decide +kernel
theorem dX12_two_140 : decode cX12_two 140 = .ok (.goto 13, 3) := by decide +kernel
theorem dX12_two_143 : decode cX12_two 143 = .ok (.aload_n 0, 1) := by decide +kernel
theorem dX12_two_144 : decode cX12_two 144 = .ok (.iload 5, 2) := by decide +kernel
theorem dX12_two_146 : decode cX12_two 146 = .ok (.iload 6, 2) := by decide +kernel
theorem dX12_two_148 : decode cX12_two 148 = .ok (.iadd, 1) := by decide +kernel
theorem dX12_two_149 : decode cX12_two 149 = .ok (.iconst 1, 1) := by decide +kernel
theorem dX12_two_150 : decode cX12_two 150 = .ok (.invokevirtual 153, 3) := by decide +kernel
theorem dX12_two_153 : decode cX12_two 153 = .ok (.ireturn, 1) := by decide +kernel
theorem dX12_stiff_0 : decode cX12_stiff 0 = .ok (.aload_n 0, 1) := by decide +kernel
theorem dX12_stiff_1 : decode cX12_stiff 1 = .ok (.aload_n 0, 1) := by decide +kernel
theorem dX12_stiff_2 : decode cX12_stiff 2 = .ok (.iload_n 1, 1) := by decide +kernel
theorem dX12_stiff_3 : decode cX12_stiff 3 = .ok (.invokevirtual 208, 3) := by decide +kernel
theorem dX12_stiff_6 : decode cX12_stiff 6 = .ok (.iload_n 2, 1) := by decide +kernel
theorem dX12_stiff_7 : decode cX12_stiff 7 = .ok (.invokevirtual 338, 3) := by decide +kernel
theorem dX12_stiff_10 : decode cX12_stiff 10 = .ok (.istore_n 3, 1) := by decide +kernel
theorem dX12_stiff_11 : decode cX12_stiff 11 = .ok (.iload_n 3, 1) := by decide +kernel
theorem dX12_stiff_12 : decode cX12_stiff 12 = .ok (.ifCond .ge 5, 3) := by decide +kernel
theorem dX12_stiff_15 : decode cX12_stiff 15 = .ok (.iload_n 3, 1) := by decide +kernel
theorem dX12_stiff_16 : decode cX12_stiff 16 = .ok (.ireturn, 1) := by decide +kernel
theorem dX12_stiff_17 : decode cX12_stiff 17 = .ok (.aload_n 0, 1) := by decide +kernel
theorem dX12_stiff_18 : decode cX12_stiff 18 = .ok (.iload_n 2, 1) := by decide +kernel
theorem dX12_stiff_19 : decode cX12_stiff 19 = .ok (.iconst (-1), 1) := by decide +kernel
theorem dX12_stiff_20 : decode cX12_stiff 20 = .ok (.iload_n 1, 1) := by decide +kernel
theorem dX12_stiff_21 : decode cX12_stiff 21 = .ok (.invokevirtual 342, 3) := by decide +kernel
theorem dX12_stiff_24 : decode cX12_stiff 24 = .ok (.istore 4, 2) := by decide +kernel
theorem dX12_stiff_26 : decode cX12_stiff 26 = .ok (.iload 4, 2) := by decide +kernel
theorem dX12_stiff_28 : decode cX12_stiff 28 = .ok (.bipush (-9), 2) := by decide +kernel
theorem dX12_stiff_30 : decode cX12_stiff 30 = .ok (.if_icmp .ne 8, 3) := by decide +kernel
theorem dX12_stiff_33 : decode cX12_stiff 33 = .ok (.bipush (-9), 2) := by decide +kernel
theorem dX12_stiff_35 : decode cX12_stiff 35 = .ok (.goto 20, 3) := by decide +kernel
theorem dX12_stiff_38 : decode cX12_stiff 38 = .ok (.aload_n 0, 1) := by decide +kernel
theorem dX12_stiff_39 : decode cX12_stiff 39 = .ok (.iload 4, 2) := by decide +kernel
theorem dX12_stiff_41 : decode cX12_stiff 41 = .ok (.iload 4, 2) := by decide +kernel
theorem dX12_stiff_43 : decode cX12_stiff 43 = .ok (.aload_n 0, 1) := by decide +kernel
theorem dX12_stiff_44 : decode cX12_stiff 44 = .ok (.iload_n 2, 1) := by decide +kernel
theorem dX12_stiff_45 : decode cX12_stiff 45 = .ok (.iconst (-1), 1) := by decide +kernel
theorem dX12_stiff_46 : decode cX12_stiff 46 = .ok (.bipush (-9), 2) := by decide +kernel
theorem dX12_stiff_48 : decode cX12_stiff 48 = .ok (.invokevirtual 342, 3) := by decide +kernel
theorem dX12_stiff_51 : decode cX12_stiff 51 = .ok (.isub, 1) := by decide +kernel
theorem dX12_stiff_52 : decode cX12_stiff 52 = .ok (.invokevirtual 153, 3) := by decide +kernel
theorem dX12_stiff_55 : decode cX12_stiff 55 = .ok (.ireturn, 1) := by decide +kernel
theorem dX12_isLooker_0 : decode cX12_isLooker 0 = .ok (.iload_n 1, 1) := by decide +kernel
theorem dX12_isLooker_1 : decode cX12_isLooker 1 = .ok (.iconst 0, 1) := by decide +kernel
theorem dX12_isLooker_2 : decode cX12_isLooker 2 = .ok (.aload_n 0, 1) := by decide +kernel
theorem dX12_isLooker_3 : decode cX12_isLooker 3 = .ok (.getfield 381, 3) := by decide +kernel
theorem dX12_isLooker_6 : decode cX12_isLooker 6 = .ok (.iconst 1, 1) := by decide +kernel
theorem dX12_isLooker_7 : decode cX12_isLooker 7 = .ok (.isub, 1) := by decide +kernel
theorem dX12_isLooker_8 : decode cX12_isLooker 8 = .ok (.invokestatic 131, 3) := by decide +kernel
theorem dX12_isLooker_11 : decode cX12_isLooker 11 = .ok (.ireturn, 1) := by decide +kernel
theorem dX12_looker_0 : decode cX12_looker 0 = .ok (.iload_n 1, 1) := by decide +kernel
theorem dX12_looker_1 : decode cX12_looker 1 = .ok (.iconst 0, 1) := by decide +kernel
theorem dX12_looker_2 : decode cX12_looker 2 = .ok (.bipush 9, 2) := by decide +kernel
theorem dX12_looker_4 : decode cX12_looker 4 = .ok (.invokestatic 131, 3) := by decide +kernel
theorem dX12_looker_7 : decode cX12_looker 7 = .ok (.ifCond .eq 23, 3) := by decide +kernel
theorem dX12_looker_10 : decode cX12_looker 10 = .ok (.iload_n 2, 1) := by decide +kernel
theorem dX12_looker_11 : decode cX12_looker 11 = .ok (.iconst 0, 1) := by decide +kernel
theorem dX12_looker_12 : decode cX12_looker 12 = .ok (.bipush 9, 2) := by decide +kernel
theorem dX12_looker_14 : decode cX12_looker 14 = .ok (.invokestatic 131, 3) := by decide +kernel
theorem dX12_looker_17 : decode cX12_looker 17 = .ok (.ifCond .eq 13, 3) := by decide +kernel
theorem dX12_looker_20 : decode cX12_looker 20 = .ok (.iload_n 3, 1) := by decide +kernel
theorem dX12_looker_21 : decode cX12_looker 21 = .ok (.iconst 0, 1) := by decide +kernel
theorem dX12_looker_22 : decode cX12_looker 22 = .ok (.bipush 9, 2) := by decide +kernel
theorem dX12_looker_24 : decode cX12_looker 24 = .ok (.invokestatic 131, 3) := by decide +kernel
theorem dX12_looker_27 : decode cX12_looker 27 = .ok (.ifCond .ne 5, 3) := by decide +kernel
theorem dX12_looker_30 : decode cX12_looker 30 = .ok (.iconst (-1), 1) := by decide +kernel
theorem dX12_looker_31 : decode cX12_looker 31 = .ok (.ireturn, 1) := by decide +kernel
theorem dX12_looker_32 : decode cX12_looker 32 = .ok (.aload_n 0, 1) := by decide +kernel
theorem dX12_looker_33 : decode cX12_looker 33 = .ok (.getfield 381, 3) := by decide +kernel
theorem dX12_looker_36 : decode cX12_looker 36 = .ok (.bipush 8, 2) := by decide +kernel
theorem dX12_looker_38 : decode cX12_looker 38 = .ok (.if_icmp .ne 6, 3) := by decide +kernel
theorem dX12_looker_41 : decode cX12_looker 41 = .ok (.bipush (-2), 2) := by decide +kernel
theorem dX12_looker_43 : decode cX12_looker 43 = .ok (.ireturn, 1) := by decide +kernel
theorem dX12_looker_44 : decode cX12_looker 44 = .ok (.aload_n 0, 1) := by decide +kernel
theorem dX12_looker_45 : decode cX12_looker 45 = .ok (.getfield 111, 3) := by decide +kernel
theorem dX12_looker_48 : decode cX12_looker 48 = .ok (.iconst 3, 1) := by decide +kernel
theorem dX12_looker_49 : decode cX12_looker 49 = .ok (.aload_n 0, 1) := by decide +kernel
theorem dX12_looker_50 : decode cX12_looker 50 = .ok (.getfield 381, 3) := by decide +kernel
theorem dX12_looker_53 : decode cX12_looker 53 = .ok (.imul, 1) := by decide +kernel
theorem dX12_looker_54 : decode cX12_looker 54 = .ok (.iload_n 1, 1) := by decide +kernel
theorem dX12_looker_55 : decode cX12_looker 55 = .ok (.iastore, 1) := by decide +kernel
theorem dX12_looker_56 : decode cX12_looker 56 = .ok (.aload_n 0, 1) := by decide +kernel
theorem dX12_looker_57 : decode cX12_looker 57 = .ok (.getfield 111, 3) := by decide +kernel
theorem dX12_looker_60 : decode cX12_looker 60 = .ok (.iconst 3, 1) := by decide +kernel
theorem dX12_looker_61 : decode cX12_looker 61 = .ok (.aload_n 0, 1) := by decide +kernel
theorem dX12_looker_62 : decode cX12_looker 62 = .ok (.getfield 381, 3) := by decide +kernel
theorem dX12_looker_65 : decode cX12_looker 65 = .ok (.imul, 1) := by decide +kernel
theorem dX12_looker_66 : decode cX12_looker 66 = .ok (.iconst 1, 1) := by decide +kernel
theorem dX12_looker_67 : decode cX12_looker 67 = .ok (.iadd, 1) := by decide +kernel
theorem dX12_looker_68 : decode cX12_looker 68 = .ok (.iload_n 2, 1) := by decide +kernel
theorem dX12_looker_69 : decode cX12_looker 69 = .ok (.iastore, 1) := by decide +kernel
theorem dX12_looker_70 : decode cX12_looker 70 = .ok (.aload_n 0, 1) := by decide +kernel
theorem dX12_looker_71 : decode cX12_looker 71 = .ok (.getfield 111, 3) := by decide +kernel
theorem dX12_looker_74 : decode cX12_looker 74 = .ok (.iconst 3, 1) := by decide +kernel
theorem dX12_looker_75 : decode cX12_looker 75 = .ok (.aload_n 0, 1) := by decide +kernel
theorem dX12_looker_76 : decode cX12_looker 76 = .ok (.getfield 381, 3) := by decide +kernel
theorem dX12_looker_79 : decode cX12_looker 79 = .ok (.imul, 1) := by decide +kernel
theorem dX12_looker_80 : decode cX12_looker 80 = .ok (.iconst 2, 1) := by decide +kernel
theorem dX12_looker_81 : decode cX12_looker 81 = .ok (.iadd, 1) := by decide +kernel
theorem dX12_looker_82 : decode cX12_looker 82 = .ok (.iload_n 3, 1) := by decide +kernel
theorem dX12_looker_83 : decode cX12_looker 83 = .ok (.iastore, 1) := by decide +kernel
theorem dX12_looker_84 : decode cX12_looker 84 = .ok (.aload_n 0, 1) := by decide +kernel
theorem dX12_looker_85 : decode cX12_looker 85 = .ok (.dup, 1) := by decide +kernel
theorem dX12_looker_86 : decode cX12_looker 86 = .ok (.getfield 381, 3) := by decide +kernel
theorem dX12_looker_89 : decode cX12_looker 89 = .ok (.iconst 1, 1) := by decide +kernel
theorem dX12_looker_90 : decode cX12_looker 90 = .ok (.iadd, 1) := by decide +kernel
theorem dX12_looker_91 : decode cX12_looker 91 = .ok (.putfield 381, 3) := by decide +kernel
theorem dX12_looker_94 : decode cX12_looker 94 = .ok (.aload_n 0, 1) := by decide +kernel
theorem dX12_looker_95 : decode cX12_looker 95 = .ok (.getfield 381, 3) := by decide +kernel
theorem dX12_looker_98 : decode cX12_looker 98 = .ok (.iconst 1, 1) := by decide +kernel
theorem dX12_looker_99 : decode cX12_looker 99 = .ok (.isub, 1) := by decide +kernel
theorem dX12_looker_100 : decode cX12_looker 100 = .ok (.ireturn, 1) := by decide +kernel
theorem dX12_weight_0 : decode cX12_weight 0 = .ok (.aload_n 0, 1) := by decide +kernel
theorem dX12_weight_1 : decode cX12_weight 1 = .ok (.iload_n 1, 1) := by decide +kernel
theorem dX12_weight_2 : decode cX12_weight 2 = .ok (.invokevirtual 384, 3) := by decide +kernel
theorem dX12_weight_5 : decode cX12_weight 5 = .ok (.ifCond .eq 30, 3) := by decide +kernel
theorem dX12_weight_8 : decode cX12_weight 8 = .ok (.iload_n 2, 1) := by decide +kernel
theorem dX12_weight_9 : decode cX12_weight 9 = .ok (.iconst 0, 1) := by decide +kernel
theorem dX12_weight_10 : decode cX12_weight 10 = .ok (.iconst 2, 1) := by decide +kernel
theorem dX12_weight_11 : decode cX12_weight 11 = .ok (.invokestatic 131, 3) := by decide +kernel
theorem dX12_weight_14 : decode cX12_weight 14 = .ok (.ifCond .eq 21, 3) := by decide +kernel
theorem dX12_weight_17 : decode cX12_weight 17 = .ok (.aload_n 0, 1) := by decide +kernel
theorem dX12_weight_18 : decode cX12_weight 18 = .ok (.aload_n 0, 1) := by decide +kernel
theorem dX12_weight_19 : decode cX12_weight 19 = .ok (.getfield 111, 3) := by decide +kernel
theorem dX12_weight_22 : decode cX12_weight 22 = .ok (.iconst 3, 1) := by decide +kernel
theorem dX12_weight_23 : decode cX12_weight 23 = .ok (.iload_n 1, 1) := by decide +kernel
theorem dX12_weight_24 : decode cX12_weight 24 = .ok (.imul, 1) := by decide +kernel
theorem dX12_weight_25 : decode cX12_weight 25 = .ok (.iload_n 2, 1) := by decide +kernel
theorem dX12_weight_26 : decode cX12_weight 26 = .ok (.iadd, 1) := by decide +kernel
theorem dX12_weight_27 : decode cX12_weight 27 = .ok (.iaload, 1) := by decide +kernel
theorem dX12_weight_28 : decode cX12_weight 28 = .ok (.iconst 1, 1) := by decide +kernel
theorem dX12_weight_29 : decode cX12_weight 29 = .ok (.invokevirtual 153, 3) := by decide +kernel
theorem dX12_weight_32 : decode cX12_weight 32 = .ok (.goto 4, 3) := by decide +kernel
theorem dX12_weight_35 : decode cX12_weight 35 = .ok (.iconst (-1), 1) := by decide +kernel
theorem dX12_weight_36 : decode cX12_weight 36 = .ok (.ireturn, 1) := by decide +kernel
theorem dX12_call_0 : decode cX12_call 0 = .ok (.aload_n 0, 1) := by decide +kernel
theorem dX12_call_1 : decode cX12_call 1 = .ok (.iload_n 1, 1) := by decide +kernel
theorem dX12_call_2 : decode cX12_call 2 = .ok (.invokevirtual 384, 3) := by decide +kernel
theorem dX12_call_5 : decode cX12_call 5 = .ok (.ifCond .eq 18, 3) := by decide +kernel
theorem dX12_call_8 : decode cX12_call 8 = .ok (.aload_n 0, 1) := by decide +kernel
theorem dX12_call_9 : decode cX12_call 9 = .ok (.iload_n 2, 1) := by decide +kernel
theorem dX12_call_10 : decode cX12_call 10 = .ok (.invokevirtual 290, 3) := by decide +kernel
theorem dX12_call_13 : decode cX12_call 13 = .ok (.ifCond .eq 10, 3) := by decide +kernel
theorem dX12_call_16 : decode cX12_call 16 = .ok (.iload_n 3, 1) := by decide +kernel
theorem dX12_call_17 : decode cX12_call 17 = .ok (.invokestatic 317, 3) := by decide +kernel
theorem dX12_call_20 : decode cX12_call 20 = .ok (.ifCond .ne 5, 3) := by decide +kernel
theorem dX12_call_23 : decode cX12_call 23 = .ok (.iconst (-1), 1) := by decide +kernel
theorem dX12_call_24 : decode cX12_call 24 = .ok (.ireturn, 1) := by decide +kernel
theorem dX12_call_25 : decode cX12_call 25 = .ok (.aload_n 0, 1) := by decide +kernel
theorem dX12_call_26 : decode cX12_call 26 = .ok (.getfield 68, 3) := by decide +kernel
theorem dX12_call_29 : decode cX12_call 29 = .ok (.iload_n 3, 1) := by decide +kernel
theorem dX12_call_30 : decode cX12_call 30 = .ok (.baload, 1) := by decide +kernel
theorem dX12_call_31 : decode cX12_call 31 = .ok (.ifCond .ne 9, 3) := by decide +kernel
theorem dX12_call_34 : decode cX12_call 34 = .ok (.aload_n 0, 1) := by decide +kernel
theorem dX12_call_35 : decode cX12_call 35 = .ok (.iconst 1, 1) := by decide +kernel
theorem dX12_call_36 : decode cX12_call 36 = .ok (.invokevirtual 145, 3) := by decide +kernel
theorem dX12_call_39 : decode cX12_call 39 = .ok (.ireturn, 1) := by decide +kernel
theorem dX12_call_40 : decode cX12_call 40 = .ok (.aload_n 0, 1) := by decide +kernel
theorem dX12_call_41 : decode cX12_call 41 = .ok (.getfield 205, 3) := by decide +kernel
theorem dX12_call_44 : decode cX12_call 44 = .ok (.bipush 24, 2) := by decide +kernel
theorem dX12_call_46 : decode cX12_call 46 = .ok (.if_icmp .ne 6, 3) := by decide +kernel
theorem dX12_call_49 : decode cX12_call 49 = .ok (.bipush (-2), 2) := by decide +kernel
theorem dX12_call_51 : decode cX12_call 51 = .ok (.ireturn, 1) := by decide +kernel
theorem dX12_call_52 : decode cX12_call 52 = .ok (.aload_n 0, 1) := by decide +kernel
theorem dX12_call_53 : decode cX12_call 53 = .ok (.getfield 114, 3) := by decide +kernel
theorem dX12_call_56 : decode cX12_call 56 = .ok (.iconst 3, 1) := by decide +kernel
theorem dX12_call_57 : decode cX12_call 57 = .ok (.aload_n 0, 1) := by decide +kernel
theorem dX12_call_58 : decode cX12_call 58 = .ok (.getfield 205, 3) := by decide +kernel
theorem dX12_call_61 : decode cX12_call 61 = .ok (.imul, 1) := by decide +kernel
theorem dX12_call_62 : decode cX12_call 62 = .ok (.iload_n 1, 1) := by decide +kernel
theorem dX12_call_63 : decode cX12_call 63 = .ok (.iastore, 1) := by decide +kernel
theorem dX12_call_64 : decode cX12_call 64 = .ok (.aload_n 0, 1) := by decide +kernel
theorem dX12_call_65 : decode cX12_call 65 = .ok (.getfield 114, 3) := by decide +kernel
theorem dX12_call_68 : decode cX12_call 68 = .ok (.iconst 3, 1) := by decide +kernel
theorem dX12_call_69 : decode cX12_call 69 = .ok (.aload_n 0, 1) := by decide +kernel
theorem dX12_call_70 : decode cX12_call 70 = .ok (.getfield 205, 3) := by decide +kernel
theorem dX12_call_73 : decode cX12_call 73 = .ok (.imul, 1) := by decide +kernel
theorem dX12_call_74 : decode cX12_call 74 = .ok (.iconst 1, 1) := by decide +kernel
theorem dX12_call_75 : decode cX12_call 75 = .ok (.iadd, 1) := by decide +kernel
theorem dX12_call_76 : decode cX12_call 76 = .ok (.iload_n 2, 1) := by decide +kernel
theorem dX12_call_77 : decode cX12_call 77 = .ok (.iastore, 1) := by decide +kernel
theorem dX12_call_78 : decode cX12_call 78 = .ok (.aload_n 0, 1) := by decide +kernel
theorem dX12_call_79 : decode cX12_call 79 = .ok (.getfield 114, 3) := by decide +kernel
theorem dX12_call_82 : decode cX12_call 82 = .ok (.iconst 3, 1) := by decide +kernel
theorem dX12_call_83 : decode cX12_call 83 = .ok (.aload_n 0, 1) := by decide +kernel
theorem dX12_call_84 : decode cX12_call 84 = .ok (.getfield 205, 3) := by decide +kernel
theorem dX12_call_87 : decode cX12_call 87 = .ok (.imul, 1) := by decide +kernel
theorem dX12_call_88 : decode cX12_call 88 = .ok (.iconst 2, 1) := by decide +kernel
theorem dX12_call_89 : decode cX12_call 89 = .ok (.iadd, 1) := by decide +kernel
theorem dX12_call_90 : decode cX12_call 90 = .ok (.iload_n 3, 1) := by decide +kernel
theorem dX12_call_91 : decode cX12_call 91 = .ok (.iastore, 1) := by decide +kernel
theorem dX12_call_92 : decode cX12_call 92 = .ok (.aload_n 0, 1) := by decide +kernel
theorem dX12_call_93 : decode cX12_call 93 = .ok (.dup, 1) := by decide +kernel
theorem dX12_call_94 : decode cX12_call 94 = .ok (.getfield 205, 3) := by decide +kernel
theorem dX12_call_97 : decode cX12_call 97 = .ok (.iconst 1, 1) := by decide +kernel
theorem dX12_call_98 : decode cX12_call 98 = .ok (.iadd, 1) := by decide +kernel
theorem dX12_call_99 : decode cX12_call 99 = .ok (.putfield 205, 3) := by decide +kernel
theorem dX12_call_102 : decode cX12_call 102 = .ok (.aload_n 0, 1) := by decide +kernel
theorem dX12_call_103 : decode cX12_call 103 = .ok (.getfield 205, 3) := by decide +kernel
theorem dX12_call_106 : decode cX12_call 106 = .ok (.iconst 1, 1) := by decide +kernel
theorem dX12_call_107 : decode cX12_call 107 = .ok (.isub, 1) := by decide +kernel
theorem dX12_call_108 : decode cX12_call 108 = .ok (.ireturn, 1) := by decide +kernel
theorem dX12_guessOf_0 : decode cX12_guessOf 0 = .ok (.aload_n 0, 1) := by decide +kernel
theorem dX12_guessOf_1 : decode cX12_guessOf 1 = .ok (.iload_n 1, 1) := by decide +kernel
theorem dX12_guessOf_2 : decode cX12_guessOf 2 = .ok (.invokevirtual 314, 3) := by decide +kernel
theorem dX12_guessOf_5 : decode cX12_guessOf 5 = .ok (.bipush (-9), 2) := by decide +kernel
theorem dX12_guessOf_7 : decode cX12_guessOf 7 = .ok (.istore 5, 2) := by decide +kernel
theorem dX12_guessOf_9 : decode cX12_guessOf 9 = .ok (.iconst 0, 1) := by decide +kernel
theorem dX12_guessOf_10 : decode cX12_guessOf 10 = .ok (.istore 6, 2) := by decide +kernel
theorem dX12_guessOf_12 : decode cX12_guessOf 12 = .ok (.iload 6, 2) := by decide +kernel
theorem dX12_guessOf_14 : decode cX12_guessOf 14 = .ok (.bipush 6, 2) := by decide +kernel
theorem dX12_guessOf_16 : decode cX12_guessOf 16 = .ok (.if_icmp .ge 116, 3) := by decide +kernel
theorem dX12_guessOf_19 : decode cX12_guessOf 19 = .ok (.aload_n 0, 1) := by decide +kernel
theorem dX12_guessOf_20 : decode cX12_guessOf 20 = .ok (.getfield 78, 3) := by decide +kernel
theorem dX12_guessOf_23 : decode cX12_guessOf 23 = .ok (.iload 6, 2) := by decide +kernel
theorem dX12_guessOf_25 : decode cX12_guessOf 25 = .ok (.iaload, 1) := by decide +kernel
theorem dX12_guessOf_26 : decode cX12_guessOf 26 = .ok (.iconst 1, 1) := by decide +kernel
theorem dX12_guessOf_27 : decode cX12_guessOf 27 = .ok (.if_icmp .ne 7, 3) := by decide +kernel
theorem dX12_guessOf_30 : decode cX12_guessOf 30 = .ok (.iconst 1, 1) := by decide +kernel
theorem dX12_guessOf_31 : decode cX12_guessOf 31 = .ok (.goto 4, 3) := by decide +kernel
theorem dX12_guessOf_34 : decode cX12_guessOf 34 = .ok (.iconst 0, 1) := by decide +kernel
theorem dX12_guessOf_35 : decode cX12_guessOf 35 = .ok (.aload_n 0, 1) := by decide +kernel
theorem dX12_guessOf_36 : decode cX12_guessOf 36 = .ok (.iload_n 1, 1) := by decide +kernel
theorem dX12_guessOf_37 : decode cX12_guessOf 37 = .ok (.invokevirtual 281, 3) := by decide +kernel
theorem dX12_guessOf_40 : decode cX12_guessOf 40 = .ok (.iconst 4, 1) := by decide +kernel
theorem dX12_guessOf_41 : decode cX12_guessOf 41 = .ok (.if_icmp .ne 7, 3) := by decide +kernel
theorem dX12_guessOf_44 : decode cX12_guessOf 44 = .ok (.iconst 1, 1) := by decide +kernel
theorem dX12_guessOf_45 : decode cX12_guessOf 45 = .ok (.goto 4, 3) := by decide +kernel
theorem dX12_guessOf_48 : decode cX12_guessOf 48 = .ok (.iconst 0, 1) := by decide +kernel
theorem dX12_guessOf_49 : decode cX12_guessOf 49 = .ok (.if_icmp .eq 7, 3) := by decide +kernel
theorem dX12_guessOf_52 : decode cX12_guessOf 52 = .ok (.iconst 1, 1) := by decide +kernel
theorem dX12_guessOf_53 : decode cX12_guessOf 53 = .ok (.goto 4, 3) := by decide +kernel
theorem dX12_guessOf_56 : decode cX12_guessOf 56 = .ok (.iconst 0, 1) := by decide +kernel
theorem dX12_guessOf_57 : decode cX12_guessOf 57 = .ok (.istore 7, 2) := by decide +kernel
theorem dX12_guessOf_59 : decode cX12_guessOf 59 = .ok (.iload_n 2, 1) := by decide +kernel
theorem dX12_guessOf_60 : decode cX12_guessOf 60 = .ok (.aload_n 0, 1) := by decide +kernel
theorem dX12_guessOf_61 : decode cX12_guessOf 61 = .ok (.iload 6, 2) := by decide +kernel
theorem dX12_guessOf_63 : decode cX12_guessOf 63 = .ok (.invokevirtual 320, 3) := by decide +kernel
theorem dX12_guessOf_66 : decode cX12_guessOf 66 = .ok (.imul, 1) := by decide +kernel
theorem dX12_guessOf_67 : decode cX12_guessOf 67 = .ok (.iload_n 3, 1) := by decide +kernel
theorem dX12_guessOf_68 : decode cX12_guessOf 68 = .ok (.aload_n 0, 1) := by decide +kernel
theorem dX12_guessOf_69 : decode cX12_guessOf 69 = .ok (.iload 6, 2) := by decide +kernel
theorem dX12_guessOf_71 : decode cX12_guessOf 71 = .ok (.invokevirtual 323, 3) := by decide +kernel
theorem dX12_guessOf_74 : decode cX12_guessOf 74 = .ok (.imul, 1) := by decide +kernel
theorem dX12_guessOf_75 : decode cX12_guessOf 75 = .ok (.iadd, 1) := by decide +kernel
theorem dX12_guessOf_76 : decode cX12_guessOf 76 = .ok (.iload 7, 2) := by decide +kernel
theorem dX12_guessOf_78 : decode cX12_guessOf 78 = .ok (.ifCond .eq 8, 3) := by decide +kernel
theorem dX12_guessOf_81 : decode cX12_guessOf 81 = .ok (.iload 4, 2) := by decide +kernel
theorem dX12_guessOf_83 : decode cX12_guessOf 83 = .ok (.goto 4, 3) := by decide +kernel
theorem dX12_guessOf_86 : decode cX12_guessOf 86 = .ok (.iconst 0, 1) := by decide +kernel
theorem dX12_guessOf_87 : decode cX12_guessOf 87 = .ok (.iadd, 1) := by decide +kernel
theorem dX12_guessOf_88 : decode cX12_guessOf 88 = .ok (.istore 8, 2) := by decide +kernel
theorem dX12_guessOf_90 : decode cX12_guessOf 90 = .ok (.aload_n 0, 1) := by decide +kernel
theorem dX12_guessOf_91 : decode cX12_guessOf 91 = .ok (.getfield 68, 3) := by decide +kernel
theorem dX12_guessOf_94 : decode cX12_guessOf 94 = .ok (.iload 6, 2) := by decide +kernel
theorem dX12_guessOf_96 : decode cX12_guessOf 96 = .ok (.baload, 1) := by decide +kernel
theorem dX12_guessOf_97 : decode cX12_guessOf 97 = .ok (.ifCond .eq 29, 3) := by decide +kernel
theorem dX12_guessOf_100 : decode cX12_guessOf 100 = .ok (.iload 5, 2) := by decide +kernel
theorem dX12_guessOf_102 : decode cX12_guessOf 102 = .ok (.bipush (-9), 2) := by decide +kernel
theorem dX12_guessOf_104 : decode cX12_guessOf 104 = .ok (.if_icmp .eq 12, 3) := by decide +kernel
theorem dX12_guessOf_107 : decode cX12_guessOf 107 = .ok (.iload 8, 2) := by decide +kernel
theorem dX12_guessOf_109 : decode cX12_guessOf 109 = .ok (.aload_n 0, 1) := by decide +kernel
theorem dX12_guessOf_110 : decode cX12_guessOf 110 = .ok (.getfield 387, 3) := by decide +kernel
theorem dX12_guessOf_113 : decode cX12_guessOf 113 = .ok (.if_icmp .ge 13, 3) := by decide +kernel
theorem dX12_guessOf_116 : decode cX12_guessOf 116 = .ok (.iload 6, 2) := by decide +kernel
theorem dX12_guessOf_118 : decode cX12_guessOf 118 = .ok (.istore 5, 2) := by decide +kernel
theorem dX12_guessOf_120 : decode cX12_guessOf 120 = .ok (.aload_n 0, 1) := by decide +kernel
theorem dX12_guessOf_121 : decode cX12_guessOf 121 = .ok (.iload 8, 2) := by decide +kernel
theorem dX12_guessOf_123 : decode cX12_guessOf 123 = .ok (.putfield 387, 3) := by decide +kernel
theorem dX12_guessOf_126 : decode cX12_guessOf 126 = .ok (.iinc 6 1, 3) := by decide +kernel
theorem dX12_guessOf_129 : decode cX12_guessOf 129 = .ok (.goto (-117), 3) := by decide +kernel
theorem dX12_guessOf_132 : decode cX12_guessOf 132 = .ok (.iload 5, 2) := by decide +kernel
theorem dX12_guessOf_134 : decode cX12_guessOf 134 = .ok (.ireturn, 1) := by decide +kernel
theorem dX12_guess_0 : decode cX12_guess 0 = .ok (.aload_n 0, 1) := by decide +kernel
theorem dX12_guess_1 : decode cX12_guess 1 = .ok (.iload_n 1, 1) := by decide +kernel
theorem dX12_guess_2 : decode cX12_guess 2 = .ok (.invokevirtual 384, 3) := by decide +kernel
theorem dX12_guess_5 : decode cX12_guess 5 = .ok (.ifCond .eq 11, 3) := by decide +kernel
theorem dX12_guess_8 : decode cX12_guess 8 = .ok (.aload_n 0, 1) := by decide +kernel
theorem dX12_guess_9 : decode cX12_guess 9 = .ok (.iload_n 2, 1) := by decide +kernel
theorem dX12_guess_10 : decode cX12_guess 10 = .ok (.invokevirtual 290, 3) := by decide +kernel
theorem dX12_guess_13 : decode cX12_guess 13 = .ok (.ifCond .ne 5, 3) := by decide +kernel
theorem dX12_guess_16 : decode cX12_guess 16 = .ok (.iconst (-1), 1) := by decide +kernel
theorem dX12_guess_17 : decode cX12_guess 17 = .ok (.ireturn, 1) := by decide +kernel
theorem dX12_guess_18 : decode cX12_guess 18 = .ok (.aload_n 0, 1) := by decide +kernel
theorem dX12_guess_19 : decode cX12_guess 19 = .ok (.iload_n 2, 1) := by decide +kernel
theorem dX12_guess_20 : decode cX12_guess 20 = .ok (.aload_n 0, 1) := by decide +kernel
theorem dX12_guess_21 : decode cX12_guess 21 = .ok (.getfield 111, 3) := by decide +kernel
theorem dX12_guess_24 : decode cX12_guess 24 = .ok (.iconst 3, 1) := by decide +kernel
theorem dX12_guess_25 : decode cX12_guess 25 = .ok (.iload_n 1, 1) := by decide +kernel
theorem dX12_guess_26 : decode cX12_guess 26 = .ok (.imul, 1) := by decide +kernel
theorem dX12_guess_27 : decode cX12_guess 27 = .ok (.iaload, 1) := by decide +kernel
theorem dX12_guess_28 : decode cX12_guess 28 = .ok (.aload_n 0, 1) := by decide +kernel
theorem dX12_guess_29 : decode cX12_guess 29 = .ok (.getfield 111, 3) := by decide +kernel
theorem dX12_guess_32 : decode cX12_guess 32 = .ok (.iconst 3, 1) := by decide +kernel
theorem dX12_guess_33 : decode cX12_guess 33 = .ok (.iload_n 1, 1) := by decide +kernel
theorem dX12_guess_34 : decode cX12_guess 34 = .ok (.imul, 1) := by decide +kernel
theorem dX12_guess_35 : decode cX12_guess 35 = .ok (.iconst 1, 1) := by decide +kernel
theorem dX12_guess_36 : decode cX12_guess 36 = .ok (.iadd, 1) := by decide +kernel
theorem dX12_guess_37 : decode cX12_guess 37 = .ok (.iaload, 1) := by decide +kernel
theorem dX12_guess_38 : decode cX12_guess 38 = .ok (.aload_n 0, 1) := by decide +kernel
theorem dX12_guess_39 : decode cX12_guess 39 = .ok (.getfield 111, 3) := by decide +kernel
theorem dX12_guess_42 : decode cX12_guess 42 = .ok (.iconst 3, 1) := by decide +kernel
theorem dX12_guess_43 : decode cX12_guess 43 = .ok (.iload_n 1, 1) := by decide +kernel
theorem dX12_guess_44 : decode cX12_guess 44 = .ok (.imul, 1) := by decide +kernel
theorem dX12_guess_45 : decode cX12_guess 45 = .ok (.iconst 2, 1) := by decide +kernel
theorem dX12_guess_46 : decode cX12_guess 46 = .ok (.iadd, 1) := by decide +kernel
theorem dX12_guess_47 : decode cX12_guess 47 = .ok (.iaload, 1) := by decide +kernel
theorem dX12_guess_48 : decode cX12_guess 48 = .ok (.invokevirtual 390, 3) := by decide +kernel
theorem dX12_guess_51 : decode cX12_guess 51 = .ok (.istore_n 3, 1) := by decide +kernel
theorem dX12_guess_52 : decode cX12_guess 52 = .ok (.iload_n 3, 1) := by decide +kernel
theorem dX12_guess_53 : decode cX12_guess 53 = .ok (.bipush (-9), 2) := by decide +kernel
theorem dX12_guess_55 : decode cX12_guess 55 = .ok (.if_icmp .ne 8, 3) := by decide +kernel
theorem dX12_guess_58 : decode cX12_guess 58 = .ok (.bipush (-9), 2) := by decide +kernel
theorem dX12_guess_60 : decode cX12_guess 60 = .ok (.goto 12, 3) := by decide +kernel
theorem dX12_guess_63 : decode cX12_guess 63 = .ok (.aload_n 0, 1) := by decide +kernel
theorem dX12_guess_64 : decode cX12_guess 64 = .ok (.aload_n 0, 1) := by decide +kernel
theorem dX12_guess_65 : decode cX12_guess 65 = .ok (.getfield 387, 3) := by decide +kernel
theorem dX12_guess_68 : decode cX12_guess 68 = .ok (.iload_n 3, 1) := by decide +kernel
theorem dX12_guess_69 : decode cX12_guess 69 = .ok (.invokevirtual 153, 3) := by decide +kernel
theorem dX12_guess_72 : decode cX12_guess 72 = .ok (.ireturn, 1) := by decide +kernel
theorem dX12_agreesBy_0 : decode cX12_agreesBy 0 = .ok (.iconst 0, 1) := by decide +kernel
theorem dX12_agreesBy_1 : decode cX12_agreesBy 1 = .ok (.istore 5, 2) := by decide +kernel
theorem dX12_agreesBy_3 : decode cX12_agreesBy 3 = .ok (.iconst 0, 1) := by decide +kernel
theorem dX12_agreesBy_4 : decode cX12_agreesBy 4 = .ok (.istore 6, 2) := by decide +kernel
theorem dX12_agreesBy_6 : decode cX12_agreesBy 6 = .ok (.iload 6, 2) := by decide +kernel
theorem dX12_agreesBy_8 : decode cX12_agreesBy 8 = .ok (.aload_n 0, 1) := by decide +kernel
theorem dX12_agreesBy_9 : decode cX12_agreesBy 9 = .ok (.getfield 205, 3) := by decide +kernel
theorem dX12_agreesBy_12 : decode cX12_agreesBy 12 = .ok (.if_icmp .ge 65, 3) := by decide +kernel
theorem dX12_agreesBy_15 : decode cX12_agreesBy 15 = .ok (.iload 5, 2) := by decide +kernel
theorem dX12_agreesBy_17 : decode cX12_agreesBy 17 = .ok (.aload_n 0, 1) := by decide +kernel
theorem dX12_agreesBy_18 : decode cX12_agreesBy 18 = .ok (.getfield 114, 3) := by decide +kernel
theorem dX12_agreesBy_21 : decode cX12_agreesBy 21 = .ok (.iconst 3, 1) := by decide +kernel
theorem dX12_agreesBy_22 : decode cX12_agreesBy 22 = .ok (.iload 6, 2) := by decide +kernel
theorem dX12_agreesBy_24 : decode cX12_agreesBy 24 = .ok (.imul, 1) := by decide +kernel
theorem dX12_agreesBy_25 : decode cX12_agreesBy 25 = .ok (.iaload, 1) := by decide +kernel
theorem dX12_agreesBy_26 : decode cX12_agreesBy 26 = .ok (.iload_n 1, 1) := by decide +kernel
theorem dX12_agreesBy_27 : decode cX12_agreesBy 27 = .ok (.if_icmp .ne 40, 3) := by decide +kernel
theorem dX12_agreesBy_30 : decode cX12_agreesBy 30 = .ok (.aload_n 0, 1) := by decide +kernel
theorem dX12_agreesBy_31 : decode cX12_agreesBy 31 = .ok (.aload_n 0, 1) := by decide +kernel
theorem dX12_agreesBy_32 : decode cX12_agreesBy 32 = .ok (.getfield 114, 3) := by decide +kernel
theorem dX12_agreesBy_35 : decode cX12_agreesBy 35 = .ok (.iconst 3, 1) := by decide +kernel
theorem dX12_agreesBy_36 : decode cX12_agreesBy 36 = .ok (.iload 6, 2) := by decide +kernel
theorem dX12_agreesBy_38 : decode cX12_agreesBy 38 = .ok (.imul, 1) := by decide +kernel
theorem dX12_agreesBy_39 : decode cX12_agreesBy 39 = .ok (.iconst 1, 1) := by decide +kernel
theorem dX12_agreesBy_40 : decode cX12_agreesBy 40 = .ok (.iadd, 1) := by decide +kernel
theorem dX12_agreesBy_41 : decode cX12_agreesBy 41 = .ok (.iaload, 1) := by decide +kernel
theorem dX12_agreesBy_42 : decode cX12_agreesBy 42 = .ok (.iload_n 2, 1) := by decide +kernel
theorem dX12_agreesBy_43 : decode cX12_agreesBy 43 = .ok (.iload_n 3, 1) := by decide +kernel
theorem dX12_agreesBy_44 : decode cX12_agreesBy 44 = .ok (.iload 4, 2) := by decide +kernel
theorem dX12_agreesBy_46 : decode cX12_agreesBy 46 = .ok (.invokevirtual 390, 3) := by decide +kernel
theorem dX12_agreesBy_49 : decode cX12_agreesBy 49 = .ok (.aload_n 0, 1) := by decide +kernel
theorem dX12_agreesBy_50 : decode cX12_agreesBy 50 = .ok (.getfield 114, 3) := by decide +kernel
theorem dX12_agreesBy_53 : decode cX12_agreesBy 53 = .ok (.iconst 3, 1) := by decide +kernel
theorem dX12_agreesBy_54 : decode cX12_agreesBy 54 = .ok (.iload 6, 2) := by decide +kernel
theorem dX12_agreesBy_56 : decode cX12_agreesBy 56 = .ok (.imul, 1) := by decide +kernel
theorem dX12_agreesBy_57 : decode cX12_agreesBy 57 = .ok (.iconst 2, 1) := by decide +kernel
theorem dX12_agreesBy_58 : decode cX12_agreesBy 58 = .ok (.iadd, 1) := by decide +kernel
theorem dX12_agreesBy_59 : decode cX12_agreesBy 59 = .ok (.iaload, 1) := by decide +kernel
theorem dX12_agreesBy_60 : decode cX12_agreesBy 60 = .ok (.if_icmp .ne 7, 3) := by decide +kernel
theorem dX12_agreesBy_63 : decode cX12_agreesBy 63 = .ok (.iconst 1, 1) := by decide +kernel
theorem dX12_agreesBy_64 : decode cX12_agreesBy 64 = .ok (.goto 4, 3) := by decide +kernel
theorem dX12_agreesBy_67 : decode cX12_agreesBy 67 = .ok (.iconst 0, 1) := by decide +kernel
theorem dX12_agreesBy_68 : decode cX12_agreesBy 68 = .ok (.iadd, 1) := by decide +kernel
theorem dX12_agreesBy_69 : decode cX12_agreesBy 69 = .ok (.istore 5, 2) := by decide +kernel
theorem dX12_agreesBy_71 : decode cX12_agreesBy 71 = .ok (.iinc 6 1, 3) := by decide +kernel
theorem dX12_agreesBy_74 : decode cX12_agreesBy 74 = .ok (.goto (-68), 3) := by decide +kernel
theorem dX12_agreesBy_77 : decode cX12_agreesBy 77 = .ok (.iload 5, 2) := by decide +kernel
theorem dX12_agreesBy_79 : decode cX12_agreesBy 79 = .ok (.ireturn, 1) := by decide +kernel
theorem dX12_agrees_0 : decode cX12_agrees 0 = .ok (.aload_n 0, 1) := by decide +kernel
theorem dX12_agrees_1 : decode cX12_agrees 1 = .ok (.iload_n 1, 1) := by decide +kernel
theorem dX12_agrees_2 : decode cX12_agrees 2 = .ok (.invokevirtual 384, 3) := by decide +kernel
theorem dX12_agrees_5 : decode cX12_agrees 5 = .ok (.ifCond .ne 5, 3) := by decide +kernel
theorem dX12_agrees_8 : decode cX12_agrees 8 = .ok (.iconst (-1), 1) := by decide +kernel
theorem dX12_agrees_9 : decode cX12_agrees 9 = .ok (.ireturn, 1) := by decide +kernel
theorem dX12_agrees_10 : decode cX12_agrees 10 = .ok (.iconst 0, 1) := by decide +kernel
theorem dX12_agrees_11 : decode cX12_agrees 11 = .ok (.istore_n 2, 1) := by decide +kernel
theorem dX12_agrees_12 : decode cX12_agrees 12 = .ok (.iconst 0, 1) := by decide +kernel
theorem dX12_agrees_13 : decode cX12_agrees 13 = .ok (.istore_n 3, 1) := by decide +kernel
theorem dX12_agrees_14 : decode cX12_agrees 14 = .ok (.iload_n 3, 1) := by decide +kernel
theorem dX12_agrees_15 : decode cX12_agrees 15 = .ok (.aload_n 0, 1) := by decide +kernel
theorem dX12_agrees_16 : decode cX12_agrees 16 = .ok (.getfield 205, 3) := by decide +kernel
theorem dX12_agrees_19 : decode cX12_agrees 19 = .ok (.if_icmp .ge 29, 3) := by decide +kernel
theorem dX12_agrees_22 : decode cX12_agrees 22 = .ok (.iload_n 2, 1) := by decide +kernel
theorem dX12_agrees_23 : decode cX12_agrees 23 = .ok (.aload_n 0, 1) := by decide +kernel
theorem dX12_agrees_24 : decode cX12_agrees 24 = .ok (.getfield 114, 3) := by decide +kernel
theorem dX12_agrees_27 : decode cX12_agrees 27 = .ok (.iconst 3, 1) := by decide +kernel
theorem dX12_agrees_28 : decode cX12_agrees 28 = .ok (.iload_n 3, 1) := by decide +kernel
theorem dX12_agrees_29 : decode cX12_agrees 29 = .ok (.imul, 1) := by decide +kernel
theorem dX12_agrees_30 : decode cX12_agrees 30 = .ok (.iaload, 1) := by decide +kernel
theorem dX12_agrees_31 : decode cX12_agrees 31 = .ok (.iload_n 1, 1) := by decide +kernel
theorem dX12_agrees_32 : decode cX12_agrees 32 = .ok (.if_icmp .ne 7, 3) := by decide +kernel
theorem dX12_agrees_35 : decode cX12_agrees 35 = .ok (.iconst 1, 1) := by decide +kernel
theorem dX12_agrees_36 : decode cX12_agrees 36 = .ok (.goto 4, 3) := by decide +kernel
theorem dX12_agrees_39 : decode cX12_agrees 39 = .ok (.iconst 0, 1) := by decide +kernel
theorem dX12_agrees_40 : decode cX12_agrees 40 = .ok (.iadd, 1) := by decide +kernel
theorem dX12_agrees_41 : decode cX12_agrees 41 = .ok (.istore_n 2, 1) := by decide +kernel
theorem dX12_agrees_42 : decode cX12_agrees 42 = .ok (.iinc 3 1, 3) := by decide +kernel
theorem dX12_agrees_45 : decode cX12_agrees 45 = .ok (.goto (-31), 3) := by decide +kernel
theorem dX12_agrees_48 : decode cX12_agrees 48 = .ok (.aload_n 0, 1) := by decide +kernel
theorem dX12_agrees_49 : decode cX12_agrees 49 = .ok (.iload_n 2, 1) := by decide +kernel
theorem dX12_agrees_50 : decode cX12_agrees 50 = .ok (.aload_n 0, 1) := by decide +kernel
theorem dX12_agrees_51 : decode cX12_agrees 51 = .ok (.iload_n 1, 1) := by decide +kernel
theorem dX12_agrees_52 : decode cX12_agrees 52 = .ok (.aload_n 0, 1) := by decide +kernel
theorem dX12_agrees_53 : decode cX12_agrees 53 = .ok (.getfield 111, 3) := by decide +kernel
theorem dX12_agrees_56 : decode cX12_agrees 56 = .ok (.iconst 3, 1) := by decide +kernel
theorem dX12_agrees_57 : decode cX12_agrees 57 = .ok (.iload_n 1, 1) := by decide +kernel
theorem dX12_agrees_58 : decode cX12_agrees 58 = .ok (.imul, 1) := by decide +kernel
theorem dX12_agrees_59 : decode cX12_agrees 59 = .ok (.iaload, 1) := by decide +kernel
theorem dX12_agrees_60 : decode cX12_agrees 60 = .ok (.aload_n 0, 1) := by decide +kernel
theorem dX12_agrees_61 : decode cX12_agrees 61 = .ok (.getfield 111, 3) := by decide +kernel
theorem dX12_agrees_64 : decode cX12_agrees 64 = .ok (.iconst 3, 1) := by decide +kernel
theorem dX12_agrees_65 : decode cX12_agrees 65 = .ok (.iload_n 1, 1) := by decide +kernel
theorem dX12_agrees_66 : decode cX12_agrees 66 = .ok (.imul, 1) := by decide +kernel
theorem dX12_agrees_67 : decode cX12_agrees 67 = .ok (.iconst 1, 1) := by decide +kernel
theorem dX12_agrees_68 : decode cX12_agrees 68 = .ok (.iadd, 1) := by decide +kernel
theorem dX12_agrees_69 : decode cX12_agrees 69 = .ok (.iaload, 1) := by decide +kernel
theorem dX12_agrees_70 : decode cX12_agrees 70 = .ok (.aload_n 0, 1) := by decide +kernel
theorem dX12_agrees_71 : decode cX12_agrees 71 = .ok (.getfield 111, 3) := by decide +kernel
theorem dX12_agrees_74 : decode cX12_agrees 74 = .ok (.iconst 3, 1) := by decide +kernel
theorem dX12_agrees_75 : decode cX12_agrees 75 = .ok (.iload_n 1, 1) := by decide +kernel
theorem dX12_agrees_76 : decode cX12_agrees 76 = .ok (.imul, 1) := by decide +kernel
theorem dX12_agrees_77 : decode cX12_agrees 77 = .ok (.iconst 2, 1) := by decide +kernel
theorem dX12_agrees_78 : decode cX12_agrees 78 = .ok (.iadd, 1) := by decide +kernel
theorem dX12_agrees_79 : decode cX12_agrees 79 = .ok (.iaload, 1) := by decide +kernel
theorem dX12_agrees_80 : decode cX12_agrees 80 = .ok (.invokevirtual 394, 3) := by decide +kernel
theorem dX12_agrees_83 : decode cX12_agrees 83 = .ok (.invokevirtual 153, 3) := by decide +kernel
theorem dX12_agrees_86 : decode cX12_agrees 86 = .ok (.ireturn, 1) := by decide +kernel
theorem dX12_fit_0 : decode cX12_fit 0 = .ok (.aload_n 0, 1) := by decide +kernel
theorem dX12_fit_1 : decode cX12_fit 1 = .ok (.iload_n 1, 1) := by decide +kernel
theorem dX12_fit_2 : decode cX12_fit 2 = .ok (.invokevirtual 384, 3) := by decide +kernel
theorem dX12_fit_5 : decode cX12_fit 5 = .ok (.ifCond .ne 5, 3) := by decide +kernel
theorem dX12_fit_8 : decode cX12_fit 8 = .ok (.iconst (-1), 1) := by decide +kernel
theorem dX12_fit_9 : decode cX12_fit 9 = .ok (.ireturn, 1) := by decide +kernel
theorem dX12_fit_10 : decode cX12_fit 10 = .ok (.iconst 0, 1) := by decide +kernel
theorem dX12_fit_11 : decode cX12_fit 11 = .ok (.istore_n 2, 1) := by decide +kernel
theorem dX12_fit_12 : decode cX12_fit 12 = .ok (.iconst (-1), 1) := by decide +kernel
theorem dX12_fit_13 : decode cX12_fit 13 = .ok (.istore_n 3, 1) := by decide +kernel
theorem dX12_fit_14 : decode cX12_fit 14 = .ok (.iconst 0, 1) := by decide +kernel
theorem dX12_fit_15 : decode cX12_fit 15 = .ok (.istore 4, 2) := by decide +kernel
theorem dX12_fit_17 : decode cX12_fit 17 = .ok (.iload 4, 2) := by decide +kernel
theorem dX12_fit_19 : decode cX12_fit 19 = .ok (.bipush 27, 2) := by decide +kernel
theorem dX12_fit_21 : decode cX12_fit 21 = .ok (.if_icmp .ge 72, 3) := by decide +kernel
theorem dX12_fit_24 : decode cX12_fit 24 = .ok (.aload_n 0, 1) := by decide +kernel
theorem dX12_fit_25 : decode cX12_fit 25 = .ok (.iload_n 1, 1) := by decide +kernel
theorem dX12_fit_26 : decode cX12_fit 26 = .ok (.iload 4, 2) := by decide +kernel
theorem dX12_fit_28 : decode cX12_fit 28 = .ok (.bipush 9, 2) := by decide +kernel
theorem dX12_fit_30 : decode cX12_fit 30 = .ok (.idiv, 1) := by decide +kernel
theorem dX12_fit_31 : decode cX12_fit 31 = .ok (.iload 4, 2) := by decide +kernel
theorem dX12_fit_33 : decode cX12_fit 33 = .ok (.iconst 3, 1) := by decide +kernel
theorem dX12_fit_34 : decode cX12_fit 34 = .ok (.idiv, 1) := by decide +kernel
theorem dX12_fit_35 : decode cX12_fit 35 = .ok (.iconst 3, 1) := by decide +kernel
theorem dX12_fit_36 : decode cX12_fit 36 = .ok (.irem, 1) := by decide +kernel
theorem dX12_fit_37 : decode cX12_fit 37 = .ok (.iload 4, 2) := by decide +kernel
theorem dX12_fit_39 : decode cX12_fit 39 = .ok (.iconst 3, 1) := by decide +kernel
theorem dX12_fit_40 : decode cX12_fit 40 = .ok (.irem, 1) := by decide +kernel
theorem dX12_fit_41 : decode cX12_fit 41 = .ok (.invokevirtual 394, 3) := by decide +kernel
theorem dX12_fit_44 : decode cX12_fit 44 = .ok (.istore 5, 2) := by decide +kernel
theorem dX12_fit_46 : decode cX12_fit 46 = .ok (.iload 5, 2) := by decide +kernel
theorem dX12_fit_48 : decode cX12_fit 48 = .ok (.iload_n 3, 1) := by decide +kernel
theorem dX12_fit_49 : decode cX12_fit 49 = .ok (.if_icmp .le 29, 3) := by decide +kernel
theorem dX12_fit_52 : decode cX12_fit 52 = .ok (.bipush 100, 2) := by decide +kernel
theorem dX12_fit_54 : decode cX12_fit 54 = .ok (.iload 4, 2) := by decide +kernel
theorem dX12_fit_56 : decode cX12_fit 56 = .ok (.bipush 9, 2) := by decide +kernel
theorem dX12_fit_58 : decode cX12_fit 58 = .ok (.idiv, 1) := by decide +kernel
theorem dX12_fit_59 : decode cX12_fit 59 = .ok (.imul, 1) := by decide +kernel
theorem dX12_fit_60 : decode cX12_fit 60 = .ok (.bipush 10, 2) := by decide +kernel
theorem dX12_fit_62 : decode cX12_fit 62 = .ok (.iload 4, 2) := by decide +kernel
theorem dX12_fit_64 : decode cX12_fit 64 = .ok (.iconst 3, 1) := by decide +kernel
theorem dX12_fit_65 : decode cX12_fit 65 = .ok (.idiv, 1) := by decide +kernel
theorem dX12_fit_66 : decode cX12_fit 66 = .ok (.iconst 3, 1) := by decide +kernel
theorem dX12_fit_67 : decode cX12_fit 67 = .ok (.irem, 1) := by decide +kernel
theorem dX12_fit_68 : decode cX12_fit 68 = .ok (.imul, 1) := by decide +kernel
theorem dX12_fit_69 : decode cX12_fit 69 = .ok (.iadd, 1) := by decide +kernel
theorem dX12_fit_70 : decode cX12_fit 70 = .ok (.iload 4, 2) := by decide +kernel
theorem dX12_fit_72 : decode cX12_fit 72 = .ok (.iconst 3, 1) := by decide +kernel
theorem dX12_fit_73 : decode cX12_fit 73 = .ok (.irem, 1) := by decide +kernel
theorem dX12_fit_74 : decode cX12_fit 74 = .ok (.iadd, 1) := by decide +kernel
theorem dX12_fit_75 : decode cX12_fit 75 = .ok (.goto 4, 3) := by decide +kernel
theorem dX12_fit_78 : decode cX12_fit 78 = .ok (.iload_n 2, 1) := by decide +kernel
theorem dX12_fit_79 : decode cX12_fit 79 = .ok (.istore_n 2, 1) := by decide +kernel
theorem dX12_fit_80 : decode cX12_fit 80 = .ok (.iload_n 3, 1) := by decide +kernel
theorem dX12_fit_81 : decode cX12_fit 81 = .ok (.iload 5, 2) := by decide +kernel
theorem dX12_fit_83 : decode cX12_fit 83 = .ok (.invokestatic 287, 3) := by decide +kernel
theorem dX12_fit_86 : decode cX12_fit 86 = .ok (.istore_n 3, 1) := by decide +kernel
theorem dX12_fit_87 : decode cX12_fit 87 = .ok (.iinc 4 1, 3) := by decide +kernel
theorem dX12_fit_90 : decode cX12_fit 90 = .ok (.goto (-73), 3) := by decide +kernel
theorem dX12_fit_93 : decode cX12_fit 93 = .ok (.aload_n 0, 1) := by decide +kernel
theorem dX12_fit_94 : decode cX12_fit 94 = .ok (.iload_n 3, 1) := by decide +kernel
theorem dX12_fit_95 : decode cX12_fit 95 = .ok (.iload_n 2, 1) := by decide +kernel
theorem dX12_fit_96 : decode cX12_fit 96 = .ok (.invokevirtual 153, 3) := by decide +kernel
theorem dX12_fit_99 : decode cX12_fit 99 = .ok (.ireturn, 1) := by decide +kernel
theorem dX12_odds_0 : decode cX12_odds 0 = .ok (.aload_n 0, 1) := by decide +kernel
theorem dX12_odds_1 : decode cX12_odds 1 = .ok (.iload_n 1, 1) := by decide +kernel
theorem dX12_odds_2 : decode cX12_odds 2 = .ok (.invokevirtual 290, 3) := by decide +kernel
theorem dX12_odds_5 : decode cX12_odds 5 = .ok (.ifCond .eq 10, 3) := by decide +kernel
theorem dX12_odds_8 : decode cX12_odds 8 = .ok (.iload_n 2, 1) := by decide +kernel
theorem dX12_odds_9 : decode cX12_odds 9 = .ok (.invokestatic 317, 3) := by decide +kernel
theorem dX12_odds_12 : decode cX12_odds 12 = .ok (.ifCond .ne 5, 3) := by decide +kernel
theorem dX12_odds_15 : decode cX12_odds 15 = .ok (.iconst (-1), 1) := by decide +kernel
theorem dX12_odds_16 : decode cX12_odds 16 = .ok (.ireturn, 1) := by decide +kernel
theorem dX12_odds_17 : decode cX12_odds 17 = .ok (.iconst 0, 1) := by decide +kernel
theorem dX12_odds_18 : decode cX12_odds 18 = .ok (.istore_n 3, 1) := by decide +kernel
theorem dX12_odds_19 : decode cX12_odds 19 = .ok (.iconst 0, 1) := by decide +kernel
theorem dX12_odds_20 : decode cX12_odds 20 = .ok (.istore 4, 2) := by decide +kernel
theorem dX12_odds_22 : decode cX12_odds 22 = .ok (.iconst 0, 1) := by decide +kernel
theorem dX12_odds_23 : decode cX12_odds 23 = .ok (.istore 5, 2) := by decide +kernel
theorem dX12_odds_25 : decode cX12_odds 25 = .ok (.iload 5, 2) := by decide +kernel
theorem dX12_odds_27 : decode cX12_odds 27 = .ok (.aload_n 0, 1) := by decide +kernel
theorem dX12_odds_28 : decode cX12_odds 28 = .ok (.getfield 205, 3) := by decide +kernel
theorem dX12_odds_31 : decode cX12_odds 31 = .ok (.if_icmp .ge 72, 3) := by decide +kernel
theorem dX12_odds_34 : decode cX12_odds 34 = .ok (.iload_n 3, 1) := by decide +kernel
theorem dX12_odds_35 : decode cX12_odds 35 = .ok (.aload_n 0, 1) := by decide +kernel
theorem dX12_odds_36 : decode cX12_odds 36 = .ok (.getfield 114, 3) := by decide +kernel
theorem dX12_odds_39 : decode cX12_odds 39 = .ok (.iconst 3, 1) := by decide +kernel
theorem dX12_odds_40 : decode cX12_odds 40 = .ok (.iload 5, 2) := by decide +kernel
theorem dX12_odds_42 : decode cX12_odds 42 = .ok (.imul, 1) := by decide +kernel
theorem dX12_odds_43 : decode cX12_odds 43 = .ok (.iconst 1, 1) := by decide +kernel
theorem dX12_odds_44 : decode cX12_odds 44 = .ok (.iadd, 1) := by decide +kernel
theorem dX12_odds_45 : decode cX12_odds 45 = .ok (.iaload, 1) := by decide +kernel
theorem dX12_odds_46 : decode cX12_odds 46 = .ok (.iload_n 1, 1) := by decide +kernel
theorem dX12_odds_47 : decode cX12_odds 47 = .ok (.if_icmp .ne 7, 3) := by decide +kernel
theorem dX12_odds_50 : decode cX12_odds 50 = .ok (.iconst 1, 1) := by decide +kernel
theorem dX12_odds_51 : decode cX12_odds 51 = .ok (.goto 4, 3) := by decide +kernel
theorem dX12_odds_54 : decode cX12_odds 54 = .ok (.iconst 0, 1) := by decide +kernel
theorem dX12_odds_55 : decode cX12_odds 55 = .ok (.iadd, 1) := by decide +kernel
theorem dX12_odds_56 : decode cX12_odds 56 = .ok (.istore_n 3, 1) := by decide +kernel
theorem dX12_odds_57 : decode cX12_odds 57 = .ok (.iload 4, 2) := by decide +kernel
theorem dX12_odds_59 : decode cX12_odds 59 = .ok (.aload_n 0, 1) := by decide +kernel
theorem dX12_odds_60 : decode cX12_odds 60 = .ok (.getfield 114, 3) := by decide +kernel
theorem dX12_odds_63 : decode cX12_odds 63 = .ok (.iconst 3, 1) := by decide +kernel
theorem dX12_odds_64 : decode cX12_odds 64 = .ok (.iload 5, 2) := by decide +kernel
theorem dX12_odds_66 : decode cX12_odds 66 = .ok (.imul, 1) := by decide +kernel
theorem dX12_odds_67 : decode cX12_odds 67 = .ok (.iconst 1, 1) := by decide +kernel
theorem dX12_odds_68 : decode cX12_odds 68 = .ok (.iadd, 1) := by decide +kernel
theorem dX12_odds_69 : decode cX12_odds 69 = .ok (.iaload, 1) := by decide +kernel
theorem dX12_odds_70 : decode cX12_odds 70 = .ok (.iload_n 1, 1) := by decide +kernel
theorem dX12_odds_71 : decode cX12_odds 71 = .ok (.if_icmp .ne 22, 3) := by decide +kernel
theorem dX12_odds_74 : decode cX12_odds 74 = .ok (.aload_n 0, 1) := by decide +kernel
theorem dX12_odds_75 : decode cX12_odds 75 = .ok (.getfield 114, 3) := by decide +kernel
theorem dX12_odds_78 : decode cX12_odds 78 = .ok (.iconst 3, 1) := by decide +kernel
theorem dX12_odds_79 : decode cX12_odds 79 = .ok (.iload 5, 2) := by decide +kernel
theorem dX12_odds_81 : decode cX12_odds 81 = .ok (.imul, 1) := by decide +kernel
theorem dX12_odds_82 : decode cX12_odds 82 = .ok (.iconst 2, 1) := by decide +kernel
theorem dX12_odds_83 : decode cX12_odds 83 = .ok (.iadd, 1) := by decide +kernel
theorem dX12_odds_84 : decode cX12_odds 84 = .ok (.iaload, 1) := by decide +kernel
theorem dX12_odds_85 : decode cX12_odds 85 = .ok (.iload_n 2, 1) := by decide +kernel
theorem dX12_odds_86 : decode cX12_odds 86 = .ok (.if_icmp .ne 7, 3) := by decide +kernel
theorem dX12_odds_89 : decode cX12_odds 89 = .ok (.iconst 1, 1) := by decide +kernel
theorem dX12_odds_90 : decode cX12_odds 90 = .ok (.goto 4, 3) := by decide +kernel
theorem dX12_odds_93 : decode cX12_odds 93 = .ok (.iconst 0, 1) := by decide +kernel
theorem dX12_odds_94 : decode cX12_odds 94 = .ok (.iadd, 1) := by decide +kernel
theorem dX12_odds_95 : decode cX12_odds 95 = .ok (.istore 4, 2) := by decide +kernel
theorem dX12_odds_97 : decode cX12_odds 97 = .ok (.iinc 5 1, 3) := by decide +kernel
theorem dX12_odds_100 : decode cX12_odds 100 = .ok (.goto (-75), 3) := by decide +kernel
theorem dX12_odds_103 : decode cX12_odds 103 = .ok (.iload_n 3, 1) := by decide +kernel
theorem dX12_odds_104 : decode cX12_odds 104 = .ok (.ifCond .ne 11, 3) := by decide +kernel
theorem dX12_odds_107 : decode cX12_odds 107 = .ok (.aload_n 0, 1) := by decide +kernel
theorem dX12_odds_108 : decode cX12_odds 108 = .ok (.iconst 4, 1) := by decide +kernel
theorem dX12_odds_109 : decode cX12_odds 109 = .ok (.invokevirtual 145, 3) := by decide +kernel
theorem dX12_odds_112 : decode cX12_odds 112 = .ok (.goto 13, 3) := by decide +kernel
theorem dX12_odds_115 : decode cX12_odds 115 = .ok (.aload_n 0, 1) := by decide +kernel
theorem dX12_odds_116 : decode cX12_odds 116 = .ok (.iload 4, 2) := by decide +kernel
theorem dX12_odds_118 : decode cX12_odds 118 = .ok (.i2l, 1) := by decide +kernel
theorem dX12_odds_119 : decode cX12_odds 119 = .ok (.iload_n 3, 1) := by decide +kernel
theorem dX12_odds_120 : decode cX12_odds 120 = .ok (.i2l, 1) := by decide +kernel
theorem dX12_odds_121 : decode cX12_odds 121 = .ok (.iload_n 3, 1) := by decide +kernel
theorem dX12_odds_122 : decode cX12_odds 122 = .ok (.invokevirtual 397, 3) := by decide +kernel
theorem dX12_odds_125 : decode cX12_odds 125 = .ok (.ireturn, 1) := by decide +kernel
theorem dX12_counted_0 : decode cX12_counted 0 = .ok (.iconst 0, 1) := by decide +kernel
theorem dX12_counted_1 : decode cX12_counted 1 = .ok (.istore_n 2, 1) := by decide +kernel
theorem dX12_counted_2 : decode cX12_counted 2 = .ok (.iconst 0, 1) := by decide +kernel
theorem dX12_counted_3 : decode cX12_counted 3 = .ok (.istore_n 3, 1) := by decide +kernel
theorem dX12_counted_4 : decode cX12_counted 4 = .ok (.iload_n 3, 1) := by decide +kernel
theorem dX12_counted_5 : decode cX12_counted 5 = .ok (.aload_n 0, 1) := by decide +kernel
theorem dX12_counted_6 : decode cX12_counted 6 = .ok (.getfield 202, 3) := by decide +kernel
theorem dX12_counted_9 : decode cX12_counted 9 = .ok (.if_icmp .ge 30, 3) := by decide +kernel
theorem dX12_counted_12 : decode cX12_counted 12 = .ok (.iload_n 2, 1) := by decide +kernel
theorem dX12_counted_13 : decode cX12_counted 13 = .ok (.iload_n 1, 1) := by decide +kernel
theorem dX12_counted_14 : decode cX12_counted 14 = .ok (.iconst 4, 1) := by decide +kernel
theorem dX12_counted_15 : decode cX12_counted 15 = .ok (.if_icmp .ne 15, 3) := by decide +kernel
theorem dX12_counted_18 : decode cX12_counted 18 = .ok (.aload_n 0, 1) := by decide +kernel
theorem dX12_counted_19 : decode cX12_counted 19 = .ok (.iload_n 3, 1) := by decide +kernel
theorem dX12_counted_20 : decode cX12_counted 20 = .ok (.invokevirtual 293, 3) := by decide +kernel
theorem dX12_counted_23 : decode cX12_counted 23 = .ok (.ifCond .eq 7, 3) := by decide +kernel
theorem dX12_counted_26 : decode cX12_counted 26 = .ok (.iconst 1, 1) := by decide +kernel
theorem dX12_counted_27 : decode cX12_counted 27 = .ok (.goto 4, 3) := by decide +kernel
theorem dX12_counted_30 : decode cX12_counted 30 = .ok (.iconst 0, 1) := by decide +kernel
theorem dX12_counted_31 : decode cX12_counted 31 = .ok (.iadd, 1) := by decide +kernel
theorem dX12_counted_32 : decode cX12_counted 32 = .ok (.istore_n 2, 1) := by decide +kernel
theorem dX12_counted_33 : decode cX12_counted 33 = .ok (.iinc 3 1, 3) := by decide +kernel
theorem dX12_counted_36 : decode cX12_counted 36 = .ok (.goto (-32), 3) := by decide +kernel
theorem dX12_counted_39 : decode cX12_counted 39 = .ok (.iconst 0, 1) := by decide +kernel
theorem dX12_counted_40 : decode cX12_counted 40 = .ok (.istore_n 3, 1) := by decide +kernel
theorem dX12_counted_41 : decode cX12_counted 41 = .ok (.iload_n 3, 1) := by decide +kernel
theorem dX12_counted_42 : decode cX12_counted 42 = .ok (.bipush 6, 2) := by decide +kernel
theorem dX12_counted_44 : decode cX12_counted 44 = .ok (.if_icmp .ge 46, 3) := by decide +kernel
theorem dX12_counted_47 : decode cX12_counted 47 = .ok (.iload_n 2, 1) := by decide +kernel
theorem dX12_counted_48 : decode cX12_counted 48 = .ok (.iload_n 1, 1) := by decide +kernel
theorem dX12_counted_49 : decode cX12_counted 49 = .ok (.iconst 5, 1) := by decide +kernel
theorem dX12_counted_50 : decode cX12_counted 50 = .ok (.if_icmp .ne 12, 3) := by decide +kernel
theorem dX12_counted_53 : decode cX12_counted 53 = .ok (.aload_n 0, 1) := by decide +kernel
theorem dX12_counted_54 : decode cX12_counted 54 = .ok (.getfield 68, 3) := by decide +kernel
theorem dX12_counted_57 : decode cX12_counted 57 = .ok (.iload_n 3, 1) := by decide +kernel
theorem dX12_counted_58 : decode cX12_counted 58 = .ok (.baload, 1) := by decide +kernel
theorem dX12_counted_59 : decode cX12_counted 59 = .ok (.ifCond .ne 18, 3) := by decide +kernel
theorem dX12_counted_62 : decode cX12_counted 62 = .ok (.iload_n 1, 1) := by decide +kernel
theorem dX12_counted_63 : decode cX12_counted 63 = .ok (.bipush 8, 2) := by decide +kernel
theorem dX12_counted_65 : decode cX12_counted 65 = .ok (.if_icmp .ne 16, 3) := by decide +kernel
theorem dX12_counted_68 : decode cX12_counted 68 = .ok (.aload_n 0, 1) := by decide +kernel
theorem dX12_counted_69 : decode cX12_counted 69 = .ok (.getfield 13, 3) := by decide +kernel
theorem dX12_counted_72 : decode cX12_counted 72 = .ok (.iload_n 3, 1) := by decide +kernel
theorem dX12_counted_73 : decode cX12_counted 73 = .ok (.iaload, 1) := by decide +kernel
theorem dX12_counted_74 : decode cX12_counted 74 = .ok (.ifCond .lt 7, 3) := by decide +kernel
theorem dX12_counted_77 : decode cX12_counted 77 = .ok (.iconst 1, 1) := by decide +kernel
theorem dX12_counted_78 : decode cX12_counted 78 = .ok (.goto 4, 3) := by decide +kernel
theorem dX12_counted_81 : decode cX12_counted 81 = .ok (.iconst 0, 1) := by decide +kernel
theorem dX12_counted_82 : decode cX12_counted 82 = .ok (.iadd, 1) := by decide +kernel
theorem dX12_counted_83 : decode cX12_counted 83 = .ok (.istore_n 2, 1) := by decide +kernel
theorem dX12_counted_84 : decode cX12_counted 84 = .ok (.iinc 3 1, 3) := by decide +kernel
theorem dX12_counted_87 : decode cX12_counted 87 = .ok (.goto (-46), 3) := by decide +kernel
theorem dX12_counted_90 : decode cX12_counted 90 = .ok (.iconst 0, 1) := by decide +kernel
theorem dX12_counted_91 : decode cX12_counted 91 = .ok (.istore_n 3, 1) := by decide +kernel
theorem dX12_counted_92 : decode cX12_counted 92 = .ok (.iload_n 3, 1) := by decide +kernel
theorem dX12_counted_93 : decode cX12_counted 93 = .ok (.iconst 4, 1) := by decide +kernel
theorem dX12_counted_94 : decode cX12_counted 94 = .ok (.if_icmp .ge 32, 3) := by decide +kernel
theorem dX12_counted_97 : decode cX12_counted 97 = .ok (.iload_n 2, 1) := by decide +kernel
theorem dX12_counted_98 : decode cX12_counted 98 = .ok (.iload_n 1, 1) := by decide +kernel
theorem dX12_counted_99 : decode cX12_counted 99 = .ok (.bipush 9, 2) := by decide +kernel
theorem dX12_counted_101 : decode cX12_counted 101 = .ok (.if_icmp .ne 16, 3) := by decide +kernel
theorem dX12_counted_104 : decode cX12_counted 104 = .ok (.aload_n 0, 1) := by decide +kernel
theorem dX12_counted_105 : decode cX12_counted 105 = .ok (.getfield 22, 3) := by decide +kernel
theorem dX12_counted_108 : decode cX12_counted 108 = .ok (.iload_n 3, 1) := by decide +kernel
theorem dX12_counted_109 : decode cX12_counted 109 = .ok (.iaload, 1) := by decide +kernel
theorem dX12_counted_110 : decode cX12_counted 110 = .ok (.ifCond .lt 7, 3) := by decide +kernel
theorem dX12_counted_113 : decode cX12_counted 113 = .ok (.iconst 1, 1) := by decide +kernel
theorem dX12_counted_114 : decode cX12_counted 114 = .ok (.goto 4, 3) := by decide +kernel
theorem dX12_counted_117 : decode cX12_counted 117 = .ok (.iconst 0, 1) := by decide +kernel
theorem dX12_counted_118 : decode cX12_counted 118 = .ok (.iadd, 1) := by decide +kernel
theorem dX12_counted_119 : decode cX12_counted 119 = .ok (.istore_n 2, 1) := by decide +kernel
theorem dX12_counted_120 : decode cX12_counted 120 = .ok (.iinc 3 1, 3) := by decide +kernel
theorem dX12_counted_123 : decode cX12_counted 123 = .ok (.goto (-31), 3) := by decide +kernel
theorem dX12_counted_126 : decode cX12_counted 126 = .ok (.iload_n 1, 1) := by decide +kernel
theorem dX12_counted_127 : decode cX12_counted 127 = .ok (.tableswitch 75 0 7 #[45, 50, 55, 60, 75, 75, 65, 70], 45) := by decide +kernel
theorem dX12_counted_172 : decode cX12_counted 172 = .ok (.aload_n 0, 1) := by decide +kernel
theorem dX12_counted_173 : decode cX12_counted 173 = .ok (.getfield 193, 3) := by decide +kernel
theorem dX12_counted_176 : decode cX12_counted 176 = .ok (.ireturn, 1) := by decide +kernel
theorem dX12_counted_177 : decode cX12_counted 177 = .ok (.aload_n 0, 1) := by decide +kernel
theorem dX12_counted_178 : decode cX12_counted 178 = .ok (.getfield 196, 3) := by decide +kernel
theorem dX12_counted_181 : decode cX12_counted 181 = .ok (.ireturn, 1) := by decide +kernel
theorem dX12_counted_182 : decode cX12_counted 182 = .ok (.aload_n 0, 1) := by decide +kernel
theorem dX12_counted_183 : decode cX12_counted 183 = .ok (.getfield 199, 3) := by decide +kernel
theorem dX12_counted_186 : decode cX12_counted 186 = .ok (.ireturn, 1) := by decide +kernel
theorem dX12_counted_187 : decode cX12_counted 187 = .ok (.aload_n 0, 1) := by decide +kernel
theorem dX12_counted_188 : decode cX12_counted 188 = .ok (.getfield 202, 3) := by decide +kernel
theorem dX12_counted_191 : decode cX12_counted 191 = .ok (.ireturn, 1) := by decide +kernel
theorem dX12_counted_192 : decode cX12_counted 192 = .ok (.aload_n 0, 1) := by decide +kernel
theorem dX12_counted_193 : decode cX12_counted 193 = .ok (.getfield 381, 3) := by decide +kernel
theorem dX12_counted_196 : decode cX12_counted 196 = .ok (.ireturn, 1) := by decide +kernel
theorem dX12_counted_197 : decode cX12_counted 197 = .ok (.aload_n 0, 1) := by decide +kernel
theorem dX12_counted_198 : decode cX12_counted 198 = .ok (.getfield 205, 3) := by decide +kernel
theorem dX12_counted_201 : decode cX12_counted 201 = .ok (.ireturn, 1) := by decide +kernel
theorem dX12_counted_202 : decode cX12_counted 202 = .ok (.iload_n 2, 1) := by decide +kernel
theorem dX12_counted_203 : decode cX12_counted 203 = .ok (.ireturn, 1) := by decide +kernel
theorem dX12_count_0 : decode cX12_count 0 = .ok (.iload_n 1, 1) := by decide +kernel
theorem dX12_count_1 : decode cX12_count 1 = .ok (.iconst 0, 1) := by decide +kernel
theorem dX12_count_2 : decode cX12_count 2 = .ok (.bipush 9, 2) := by decide +kernel
theorem dX12_count_4 : decode cX12_count 4 = .ok (.invokestatic 131, 3) := by decide +kernel
theorem dX12_count_7 : decode cX12_count 7 = .ok (.ifCond .eq 11, 3) := by decide +kernel
theorem dX12_count_10 : decode cX12_count 10 = .ok (.aload_n 0, 1) := by decide +kernel
theorem dX12_count_11 : decode cX12_count 11 = .ok (.iload_n 1, 1) := by decide +kernel
theorem dX12_count_12 : decode cX12_count 12 = .ok (.invokevirtual 401, 3) := by decide +kernel
theorem dX12_count_15 : decode cX12_count 15 = .ok (.goto 4, 3) := by decide +kernel
theorem dX12_count_18 : decode cX12_count 18 = .ok (.iconst (-1), 1) := by decide +kernel
theorem dX12_count_19 : decode cX12_count 19 = .ok (.ireturn, 1) := by decide +kernel
theorem dX12_mix_0 : decode cX12_mix 0 = .ok (.aload_n 0, 1) := by decide +kernel
theorem dX12_mix_1 : decode cX12_mix 1 = .ok (.ldc2_w 404, 3) := by decide +kernel
theorem dX12_mix_4 : decode cX12_mix 4 = .ok (.aload_n 0, 1) := by decide +kernel
theorem dX12_mix_5 : decode cX12_mix 5 = .ok (.getfield 406, 3) := by decide +kernel
theorem dX12_mix_8 : decode cX12_mix 8 = .ok (.lmul, 1) := by decide +kernel
theorem dX12_mix_9 : decode cX12_mix 9 = .ok (.lload_n 1, 1) := by decide +kernel
theorem dX12_mix_10 : decode cX12_mix 10 = .ok (.ladd, 1) := by decide +kernel
theorem dX12_mix_11 : decode cX12_mix 11 = .ok (.putfield 406, 3) := by decide +kernel
theorem dX12_mix_14 : decode cX12_mix 14 = .ok (.return_, 1) := by decide +kernel
theorem dX12_mixHands_0 : decode cX12_mixHands 0 = .ok (.aload_n 0, 1) := by decide +kernel
theorem dX12_mixHands_1 : decode cX12_mixHands 1 = .ok (.aload_n 0, 1) := by decide +kernel
theorem dX12_mixHands_2 : decode cX12_mixHands 2 = .ok (.getfield 121, 3) := by decide +kernel
theorem dX12_mixHands_5 : decode cX12_mixHands 5 = .ok (.i2l, 1) := by decide +kernel
theorem dX12_mixHands_6 : decode cX12_mixHands 6 = .ok (.invokevirtual 409, 3) := by decide +kernel
theorem dX12_mixHands_9 : decode cX12_mixHands 9 = .ok (.aload_n 0, 1) := by decide +kernel
theorem dX12_mixHands_10 : decode cX12_mixHands 10 = .ok (.aload_n 0, 1) := by decide +kernel
theorem dX12_mixHands_11 : decode cX12_mixHands 11 = .ok (.invokevirtual 217, 3) := by decide +kernel
theorem dX12_mixHands_14 : decode cX12_mixHands 14 = .ok (.i2l, 1) := by decide +kernel
theorem dX12_mixHands_15 : decode cX12_mixHands 15 = .ok (.invokevirtual 409, 3) := by decide +kernel
theorem dX12_mixHands_18 : decode cX12_mixHands 18 = .ok (.iconst 0, 1) := by decide +kernel
theorem dX12_mixHands_19 : decode cX12_mixHands 19 = .ok (.istore_n 1, 1) := by decide +kernel
theorem dX12_mixHands_20 : decode cX12_mixHands 20 = .ok (.iload_n 1, 1) := by decide +kernel
theorem dX12_mixHands_21 : decode cX12_mixHands 21 = .ok (.aload_n 0, 1) := by decide +kernel
theorem dX12_mixHands_22 : decode cX12_mixHands 22 = .ok (.getfield 193, 3) := by decide +kernel
theorem dX12_mixHands_25 : decode cX12_mixHands 25 = .ok (.if_icmp .ge 20, 3) := by decide +kernel
theorem dX12_mixHands_28 : decode cX12_mixHands 28 = .ok (.aload_n 0, 1) := by decide +kernel
theorem dX12_mixHands_29 : decode cX12_mixHands 29 = .ok (.aload_n 0, 1) := by decide +kernel
theorem dX12_mixHands_30 : decode cX12_mixHands 30 = .ok (.getfield 29, 3) := by decide +kernel
theorem dX12_mixHands_33 : decode cX12_mixHands 33 = .ok (.iload_n 1, 1) := by decide +kernel
theorem dX12_mixHands_34 : decode cX12_mixHands 34 = .ok (.iaload, 1) := by decide +kernel
theorem dX12_mixHands_35 : decode cX12_mixHands 35 = .ok (.i2l, 1) := by decide +kernel
theorem dX12_mixHands_36 : decode cX12_mixHands 36 = .ok (.invokevirtual 409, 3) := by decide +kernel
theorem dX12_mixHands_39 : decode cX12_mixHands 39 = .ok (.iinc 1 1, 3) := by decide +kernel
theorem dX12_mixHands_42 : decode cX12_mixHands 42 = .ok (.goto (-22), 3) := by decide +kernel
theorem dX12_mixHands_45 : decode cX12_mixHands 45 = .ok (.iconst 0, 1) := by decide +kernel
theorem dX12_mixHands_46 : decode cX12_mixHands 46 = .ok (.istore_n 1, 1) := by decide +kernel
theorem dX12_mixHands_47 : decode cX12_mixHands 47 = .ok (.iload_n 1, 1) := by decide +kernel
theorem dX12_mixHands_48 : decode cX12_mixHands 48 = .ok (.iconst 4, 1) := by decide +kernel
theorem dX12_mixHands_49 : decode cX12_mixHands 49 = .ok (.aload_n 0, 1) := by decide +kernel
theorem dX12_mixHands_50 : decode cX12_mixHands 50 = .ok (.getfield 196, 3) := by decide +kernel
theorem dX12_mixHands_53 : decode cX12_mixHands 53 = .ok (.imul, 1) := by decide +kernel
theorem dX12_mixHands_54 : decode cX12_mixHands 54 = .ok (.if_icmp .ge 20, 3) := by decide +kernel
theorem dX12_mixHands_57 : decode cX12_mixHands 57 = .ok (.aload_n 0, 1) := by decide +kernel
theorem dX12_mixHands_58 : decode cX12_mixHands 58 = .ok (.aload_n 0, 1) := by decide +kernel
theorem dX12_mixHands_59 : decode cX12_mixHands 59 = .ok (.getfield 32, 3) := by decide +kernel
theorem dX12_mixHands_62 : decode cX12_mixHands 62 = .ok (.iload_n 1, 1) := by decide +kernel
theorem dX12_mixHands_63 : decode cX12_mixHands 63 = .ok (.iaload, 1) := by decide +kernel
theorem dX12_mixHands_64 : decode cX12_mixHands 64 = .ok (.i2l, 1) := by decide +kernel
theorem dX12_mixHands_65 : decode cX12_mixHands 65 = .ok (.invokevirtual 409, 3) := by decide +kernel
theorem dX12_mixHands_68 : decode cX12_mixHands 68 = .ok (.iinc 1 1, 3) := by decide +kernel
theorem dX12_mixHands_71 : decode cX12_mixHands 71 = .ok (.goto (-24), 3) := by decide +kernel
theorem dX12_mixHands_74 : decode cX12_mixHands 74 = .ok (.iconst 0, 1) := by decide +kernel
theorem dX12_mixHands_75 : decode cX12_mixHands 75 = .ok (.istore_n 1, 1) := by decide +kernel
theorem dX12_mixHands_76 : decode cX12_mixHands 76 = .ok (.iload_n 1, 1) := by decide +kernel
theorem dX12_mixHands_77 : decode cX12_mixHands 77 = .ok (.iconst 3, 1) := by decide +kernel
theorem dX12_mixHands_78 : decode cX12_mixHands 78 = .ok (.aload_n 0, 1) := by decide +kernel
theorem dX12_mixHands_79 : decode cX12_mixHands 79 = .ok (.getfield 199, 3) := by decide +kernel
theorem dX12_mixHands_82 : decode cX12_mixHands 82 = .ok (.imul, 1) := by decide +kernel
theorem dX12_mixHands_83 : decode cX12_mixHands 83 = .ok (.if_icmp .ge 20, 3) := by decide +kernel
theorem dX12_mixHands_86 : decode cX12_mixHands 86 = .ok (.aload_n 0, 1) := by decide +kernel
theorem dX12_mixHands_87 : decode cX12_mixHands 87 = .ok (.aload_n 0, 1) := by decide +kernel
theorem dX12_mixHands_88 : decode cX12_mixHands 88 = .ok (.getfield 35, 3) := by decide +kernel
theorem dX12_mixHands_91 : decode cX12_mixHands 91 = .ok (.iload_n 1, 1) := by decide +kernel
theorem dX12_mixHands_92 : decode cX12_mixHands 92 = .ok (.iaload, 1) := by decide +kernel
theorem dX12_mixHands_93 : decode cX12_mixHands 93 = .ok (.i2l, 1) := by decide +kernel
theorem dX12_mixHands_94 : decode cX12_mixHands 94 = .ok (.invokevirtual 409, 3) := by decide +kernel
theorem dX12_mixHands_97 : decode cX12_mixHands 97 = .ok (.iinc 1 1, 3) := by decide +kernel
theorem dX12_mixHands_100 : decode cX12_mixHands 100 = .ok (.goto (-24), 3) := by decide +kernel
theorem dX12_mixHands_103 : decode cX12_mixHands 103 = .ok (.iconst 0, 1) := by decide +kernel
theorem dX12_mixHands_104 : decode cX12_mixHands 104 = .ok (.istore_n 1, 1) := by decide +kernel
theorem dX12_mixHands_105 : decode cX12_mixHands 105 = .ok (.iload_n 1, 1) := by decide +kernel
theorem dX12_mixHands_106 : decode cX12_mixHands 106 = .ok (.aload_n 0, 1) := by decide +kernel
theorem dX12_mixHands_107 : decode cX12_mixHands 107 = .ok (.getfield 202, 3) := by decide +kernel
theorem dX12_mixHands_110 : decode cX12_mixHands 110 = .ok (.if_icmp .ge 65, 3) := by decide +kernel
theorem dX12_mixHands_113 : decode cX12_mixHands 113 = .ok (.iconst 0, 1) := by decide +kernel
theorem dX12_mixHands_114 : decode cX12_mixHands 114 = .ok (.istore_n 2, 1) := by decide +kernel
theorem dX12_mixHands_115 : decode cX12_mixHands 115 = .ok (.iload_n 2, 1) := by decide +kernel
theorem dX12_mixHands_116 : decode cX12_mixHands 116 = .ok (.iconst 3, 1) := by decide +kernel
theorem dX12_mixHands_117 : decode cX12_mixHands 117 = .ok (.if_icmp .ge 20, 3) := by decide +kernel
theorem dX12_mixHands_120 : decode cX12_mixHands 120 = .ok (.aload_n 0, 1) := by decide +kernel
theorem dX12_mixHands_121 : decode cX12_mixHands 121 = .ok (.aload_n 0, 1) := by decide +kernel
theorem dX12_mixHands_122 : decode cX12_mixHands 122 = .ok (.iload_n 1, 1) := by decide +kernel
theorem dX12_mixHands_123 : decode cX12_mixHands 123 = .ok (.iload_n 2, 1) := by decide +kernel
theorem dX12_mixHands_124 : decode cX12_mixHands 124 = .ok (.invokevirtual 302, 3) := by decide +kernel
theorem dX12_mixHands_127 : decode cX12_mixHands 127 = .ok (.i2l, 1) := by decide +kernel
theorem dX12_mixHands_128 : decode cX12_mixHands 128 = .ok (.invokevirtual 409, 3) := by decide +kernel
theorem dX12_mixHands_131 : decode cX12_mixHands 131 = .ok (.iinc 2 1, 3) := by decide +kernel
theorem dX12_mixHands_134 : decode cX12_mixHands 134 = .ok (.goto (-19), 3) := by decide +kernel
theorem dX12_mixHands_137 : decode cX12_mixHands 137 = .ok (.iconst 0, 1) := by decide +kernel
theorem dX12_mixHands_138 : decode cX12_mixHands 138 = .ok (.istore_n 2, 1) := by decide +kernel
theorem dX12_mixHands_139 : decode cX12_mixHands 139 = .ok (.iload_n 2, 1) := by decide +kernel
theorem dX12_mixHands_140 : decode cX12_mixHands 140 = .ok (.aload_n 0, 1) := by decide +kernel
theorem dX12_mixHands_141 : decode cX12_mixHands 141 = .ok (.getfield 199, 3) := by decide +kernel
theorem dX12_mixHands_144 : decode cX12_mixHands 144 = .ok (.if_icmp .ge 25, 3) := by decide +kernel
theorem dX12_mixHands_147 : decode cX12_mixHands 147 = .ok (.aload_n 0, 1) := by decide +kernel
theorem dX12_mixHands_148 : decode cX12_mixHands 148 = .ok (.aload_n 0, 1) := by decide +kernel
theorem dX12_mixHands_149 : decode cX12_mixHands 149 = .ok (.getfield 62, 3) := by decide +kernel
theorem dX12_mixHands_152 : decode cX12_mixHands 152 = .ok (.bipush 6, 2) := by decide +kernel
theorem dX12_mixHands_154 : decode cX12_mixHands 154 = .ok (.iload_n 1, 1) := by decide +kernel
theorem dX12_mixHands_155 : decode cX12_mixHands 155 = .ok (.imul, 1) := by decide +kernel
theorem dX12_mixHands_156 : decode cX12_mixHands 156 = .ok (.iload_n 2, 1) := by decide +kernel
theorem dX12_mixHands_157 : decode cX12_mixHands 157 = .ok (.iadd, 1) := by decide +kernel
theorem dX12_mixHands_158 : decode cX12_mixHands 158 = .ok (.iaload, 1) := by decide +kernel
theorem dX12_mixHands_159 : decode cX12_mixHands 159 = .ok (.i2l, 1) := by decide +kernel
theorem dX12_mixHands_160 : decode cX12_mixHands 160 = .ok (.invokevirtual 409, 3) := by decide +kernel
theorem dX12_mixHands_163 : decode cX12_mixHands 163 = .ok (.iinc 2 1, 3) := by decide +kernel
theorem dX12_mixHands_166 : decode cX12_mixHands 166 = .ok (.goto (-27), 3) := by decide +kernel
theorem dX12_mixHands_169 : decode cX12_mixHands 169 = .ok (.iinc 1 1, 3) := by decide +kernel
theorem dX12_mixHands_172 : decode cX12_mixHands 172 = .ok (.goto (-67), 3) := by decide +kernel
theorem dX12_mixHands_175 : decode cX12_mixHands 175 = .ok (.return_, 1) := by decide +kernel
theorem dX12_mixBeasts_0 : decode cX12_mixBeasts 0 = .ok (.iconst 0, 1) := by decide +kernel
theorem dX12_mixBeasts_1 : decode cX12_mixBeasts 1 = .ok (.istore_n 1, 1) := by decide +kernel
theorem dX12_mixBeasts_2 : decode cX12_mixBeasts 2 = .ok (.iload_n 1, 1) := by decide +kernel
theorem dX12_mixBeasts_3 : decode cX12_mixBeasts 3 = .ok (.bipush 6, 2) := by decide +kernel
theorem dX12_mixBeasts_5 : decode cX12_mixBeasts 5 = .ok (.if_icmp .ge 123, 3) := by decide +kernel
theorem dX12_mixBeasts_8 : decode cX12_mixBeasts 8 = .ok (.aload_n 0, 1) := by decide +kernel
theorem dX12_mixBeasts_9 : decode cX12_mixBeasts 9 = .ok (.getfield 68, 3) := by decide +kernel
theorem dX12_mixBeasts_12 : decode cX12_mixBeasts 12 = .ok (.iload_n 1, 1) := by decide +kernel
theorem dX12_mixBeasts_13 : decode cX12_mixBeasts 13 = .ok (.baload, 1) := by decide +kernel
theorem dX12_mixBeasts_14 : decode cX12_mixBeasts 14 = .ok (.ifCond .ne 10, 3) := by decide +kernel
theorem dX12_mixBeasts_17 : decode cX12_mixBeasts 17 = .ok (.aload_n 0, 1) := by decide +kernel
theorem dX12_mixBeasts_18 : decode cX12_mixBeasts 18 = .ok (.ldc2_w 413, 3) := by decide +kernel
theorem dX12_mixBeasts_21 : decode cX12_mixBeasts 21 = .ok (.invokevirtual 409, 3) := by decide +kernel
theorem dX12_mixBeasts_24 : decode cX12_mixBeasts 24 = .ok (.iconst 0, 1) := by decide +kernel
theorem dX12_mixBeasts_25 : decode cX12_mixBeasts 25 = .ok (.istore_n 2, 1) := by decide +kernel
theorem dX12_mixBeasts_26 : decode cX12_mixBeasts 26 = .ok (.iload_n 2, 1) := by decide +kernel
theorem dX12_mixBeasts_27 : decode cX12_mixBeasts 27 = .ok (.bipush 10, 2) := by decide +kernel
theorem dX12_mixBeasts_29 : decode cX12_mixBeasts 29 = .ok (.if_icmp .ge 34, 3) := by decide +kernel
theorem dX12_mixBeasts_32 : decode cX12_mixBeasts 32 = .ok (.aload_n 0, 1) := by decide +kernel
theorem dX12_mixBeasts_33 : decode cX12_mixBeasts 33 = .ok (.getfield 68, 3) := by decide +kernel
theorem dX12_mixBeasts_36 : decode cX12_mixBeasts 36 = .ok (.iload_n 1, 1) := by decide +kernel
theorem dX12_mixBeasts_37 : decode cX12_mixBeasts 37 = .ok (.baload, 1) := by decide +kernel
theorem dX12_mixBeasts_38 : decode cX12_mixBeasts 38 = .ok (.ifCond .eq 25, 3) := by decide +kernel
theorem dX12_mixBeasts_41 : decode cX12_mixBeasts 41 = .ok (.aload_n 0, 1) := by decide +kernel
theorem dX12_mixBeasts_42 : decode cX12_mixBeasts 42 = .ok (.aload_n 0, 1) := by decide +kernel
theorem dX12_mixBeasts_43 : decode cX12_mixBeasts 43 = .ok (.getfield 72, 3) := by decide +kernel
theorem dX12_mixBeasts_46 : decode cX12_mixBeasts 46 = .ok (.bipush 10, 2) := by decide +kernel
theorem dX12_mixBeasts_48 : decode cX12_mixBeasts 48 = .ok (.iload_n 1, 1) := by decide +kernel
theorem dX12_mixBeasts_49 : decode cX12_mixBeasts 49 = .ok (.imul, 1) := by decide +kernel
theorem dX12_mixBeasts_50 : decode cX12_mixBeasts 50 = .ok (.iload_n 2, 1) := by decide +kernel
theorem dX12_mixBeasts_51 : decode cX12_mixBeasts 51 = .ok (.iadd, 1) := by decide +kernel
theorem dX12_mixBeasts_52 : decode cX12_mixBeasts 52 = .ok (.iaload, 1) := by decide +kernel
theorem dX12_mixBeasts_53 : decode cX12_mixBeasts 53 = .ok (.i2l, 1) := by decide +kernel
theorem dX12_mixBeasts_54 : decode cX12_mixBeasts 54 = .ok (.invokevirtual 409, 3) := by decide +kernel
theorem dX12_mixBeasts_57 : decode cX12_mixBeasts 57 = .ok (.iinc 2 1, 3) := by decide +kernel
theorem dX12_mixBeasts_60 : decode cX12_mixBeasts 60 = .ok (.goto (-34), 3) := by decide +kernel
theorem dX12_mixBeasts_63 : decode cX12_mixBeasts 63 = .ok (.iconst 0, 1) := by decide +kernel
theorem dX12_mixBeasts_64 : decode cX12_mixBeasts 64 = .ok (.istore_n 2, 1) := by decide +kernel
theorem dX12_mixBeasts_65 : decode cX12_mixBeasts 65 = .ok (.iload_n 2, 1) := by decide +kernel
theorem dX12_mixBeasts_66 : decode cX12_mixBeasts 66 = .ok (.bipush 10, 2) := by decide +kernel
theorem dX12_mixBeasts_68 : decode cX12_mixBeasts 68 = .ok (.if_icmp .ge 34, 3) := by decide +kernel
theorem dX12_mixBeasts_71 : decode cX12_mixBeasts 71 = .ok (.aload_n 0, 1) := by decide +kernel
theorem dX12_mixBeasts_72 : decode cX12_mixBeasts 72 = .ok (.getfield 68, 3) := by decide +kernel
theorem dX12_mixBeasts_75 : decode cX12_mixBeasts 75 = .ok (.iload_n 1, 1) := by decide +kernel
theorem dX12_mixBeasts_76 : decode cX12_mixBeasts 76 = .ok (.baload, 1) := by decide +kernel
theorem dX12_mixBeasts_77 : decode cX12_mixBeasts 77 = .ok (.ifCond .eq 25, 3) := by decide +kernel
theorem dX12_mixBeasts_80 : decode cX12_mixBeasts 80 = .ok (.aload_n 0, 1) := by decide +kernel
theorem dX12_mixBeasts_81 : decode cX12_mixBeasts 81 = .ok (.aload_n 0, 1) := by decide +kernel
theorem dX12_mixBeasts_82 : decode cX12_mixBeasts 82 = .ok (.getfield 75, 3) := by decide +kernel
theorem dX12_mixBeasts_85 : decode cX12_mixBeasts 85 = .ok (.bipush 10, 2) := by decide +kernel
theorem dX12_mixBeasts_87 : decode cX12_mixBeasts 87 = .ok (.iload_n 1, 1) := by decide +kernel
theorem dX12_mixBeasts_88 : decode cX12_mixBeasts 88 = .ok (.imul, 1) := by decide +kernel
theorem dX12_mixBeasts_89 : decode cX12_mixBeasts 89 = .ok (.iload_n 2, 1) := by decide +kernel
theorem dX12_mixBeasts_90 : decode cX12_mixBeasts 90 = .ok (.iadd, 1) := by decide +kernel
theorem dX12_mixBeasts_91 : decode cX12_mixBeasts 91 = .ok (.iaload, 1) := by decide +kernel
theorem dX12_mixBeasts_92 : decode cX12_mixBeasts 92 = .ok (.i2l, 1) := by decide +kernel
theorem dX12_mixBeasts_93 : decode cX12_mixBeasts 93 = .ok (.invokevirtual 409, 3) := by decide +kernel
theorem dX12_mixBeasts_96 : decode cX12_mixBeasts 96 = .ok (.iinc 2 1, 3) := by decide +kernel
theorem dX12_mixBeasts_99 : decode cX12_mixBeasts 99 = .ok (.goto (-34), 3) := by decide +kernel
theorem dX12_mixBeasts_102 : decode cX12_mixBeasts 102 = .ok (.aload_n 0, 1) := by decide +kernel
theorem dX12_mixBeasts_103 : decode cX12_mixBeasts 103 = .ok (.getfield 68, 3) := by decide +kernel
theorem dX12_mixBeasts_106 : decode cX12_mixBeasts 106 = .ok (.iload_n 1, 1) := by decide +kernel
theorem dX12_mixBeasts_107 : decode cX12_mixBeasts 107 = .ok (.baload, 1) := by decide +kernel
theorem dX12_mixBeasts_108 : decode cX12_mixBeasts 108 = .ok (.ifCond .eq 14, 3) := by decide +kernel
theorem dX12_mixBeasts_111 : decode cX12_mixBeasts 111 = .ok (.aload_n 0, 1) := by decide +kernel
theorem dX12_mixBeasts_112 : decode cX12_mixBeasts 112 = .ok (.aload_n 0, 1) := by decide +kernel
theorem dX12_mixBeasts_113 : decode cX12_mixBeasts 113 = .ok (.getfield 78, 3) := by decide +kernel
theorem dX12_mixBeasts_116 : decode cX12_mixBeasts 116 = .ok (.iload_n 1, 1) := by decide +kernel
theorem dX12_mixBeasts_117 : decode cX12_mixBeasts 117 = .ok (.iaload, 1) := by decide +kernel
theorem dX12_mixBeasts_118 : decode cX12_mixBeasts 118 = .ok (.i2l, 1) := by decide +kernel
theorem dX12_mixBeasts_119 : decode cX12_mixBeasts 119 = .ok (.invokevirtual 409, 3) := by decide +kernel
theorem dX12_mixBeasts_122 : decode cX12_mixBeasts 122 = .ok (.iinc 1 1, 3) := by decide +kernel
theorem dX12_mixBeasts_125 : decode cX12_mixBeasts 125 = .ok (.goto (-123), 3) := by decide +kernel
theorem dX12_mixBeasts_128 : decode cX12_mixBeasts 128 = .ok (.iconst 0, 1) := by decide +kernel
theorem dX12_mixBeasts_129 : decode cX12_mixBeasts 129 = .ok (.istore_n 1, 1) := by decide +kernel
theorem dX12_mixBeasts_130 : decode cX12_mixBeasts 130 = .ok (.iload_n 1, 1) := by decide +kernel
theorem dX12_mixBeasts_131 : decode cX12_mixBeasts 131 = .ok (.iconst 3, 1) := by decide +kernel
theorem dX12_mixBeasts_132 : decode cX12_mixBeasts 132 = .ok (.aload_n 0, 1) := by decide +kernel
theorem dX12_mixBeasts_133 : decode cX12_mixBeasts 133 = .ok (.getfield 381, 3) := by decide +kernel
theorem dX12_mixBeasts_136 : decode cX12_mixBeasts 136 = .ok (.imul, 1) := by decide +kernel
theorem dX12_mixBeasts_137 : decode cX12_mixBeasts 137 = .ok (.if_icmp .ge 20, 3) := by decide +kernel
theorem dX12_mixBeasts_140 : decode cX12_mixBeasts 140 = .ok (.aload_n 0, 1) := by decide +kernel
theorem dX12_mixBeasts_141 : decode cX12_mixBeasts 141 = .ok (.aload_n 0, 1) := by decide +kernel
theorem dX12_mixBeasts_142 : decode cX12_mixBeasts 142 = .ok (.getfield 111, 3) := by decide +kernel
theorem dX12_mixBeasts_145 : decode cX12_mixBeasts 145 = .ok (.iload_n 1, 1) := by decide +kernel
theorem dX12_mixBeasts_146 : decode cX12_mixBeasts 146 = .ok (.iaload, 1) := by decide +kernel
theorem dX12_mixBeasts_147 : decode cX12_mixBeasts 147 = .ok (.i2l, 1) := by decide +kernel
theorem dX12_mixBeasts_148 : decode cX12_mixBeasts 148 = .ok (.invokevirtual 409, 3) := by decide +kernel
theorem dX12_mixBeasts_151 : decode cX12_mixBeasts 151 = .ok (.iinc 1 1, 3) := by decide +kernel
theorem dX12_mixBeasts_154 : decode cX12_mixBeasts 154 = .ok (.goto (-24), 3) := by decide +kernel
theorem dX12_mixBeasts_157 : decode cX12_mixBeasts 157 = .ok (.iconst 0, 1) := by decide +kernel
theorem dX12_mixBeasts_158 : decode cX12_mixBeasts 158 = .ok (.istore_n 1, 1) := by decide +kernel
theorem dX12_mixBeasts_159 : decode cX12_mixBeasts 159 = .ok (.iload_n 1, 1) := by decide +kernel
theorem dX12_mixBeasts_160 : decode cX12_mixBeasts 160 = .ok (.iconst 3, 1) := by decide +kernel
theorem dX12_mixBeasts_161 : decode cX12_mixBeasts 161 = .ok (.aload_n 0, 1) := by decide +kernel
theorem dX12_mixBeasts_162 : decode cX12_mixBeasts 162 = .ok (.getfield 205, 3) := by decide +kernel
theorem dX12_mixBeasts_165 : decode cX12_mixBeasts 165 = .ok (.imul, 1) := by decide +kernel
theorem dX12_mixBeasts_166 : decode cX12_mixBeasts 166 = .ok (.if_icmp .ge 20, 3) := by decide +kernel
theorem dX12_mixBeasts_169 : decode cX12_mixBeasts 169 = .ok (.aload_n 0, 1) := by decide +kernel
theorem dX12_mixBeasts_170 : decode cX12_mixBeasts 170 = .ok (.aload_n 0, 1) := by decide +kernel
theorem dX12_mixBeasts_171 : decode cX12_mixBeasts 171 = .ok (.getfield 114, 3) := by decide +kernel
theorem dX12_mixBeasts_174 : decode cX12_mixBeasts 174 = .ok (.iload_n 1, 1) := by decide +kernel
theorem dX12_mixBeasts_175 : decode cX12_mixBeasts 175 = .ok (.iaload, 1) := by decide +kernel
theorem dX12_mixBeasts_176 : decode cX12_mixBeasts 176 = .ok (.i2l, 1) := by decide +kernel
theorem dX12_mixBeasts_177 : decode cX12_mixBeasts 177 = .ok (.invokevirtual 409, 3) := by decide +kernel
theorem dX12_mixBeasts_180 : decode cX12_mixBeasts 180 = .ok (.iinc 1 1, 3) := by decide +kernel
theorem dX12_mixBeasts_183 : decode cX12_mixBeasts 183 = .ok (.goto (-24), 3) := by decide +kernel
theorem dX12_mixBeasts_186 : decode cX12_mixBeasts 186 = .ok (.return_, 1) := by decide +kernel
theorem dX12_digest_0 : decode cX12_digest 0 = .ok (.aload_n 0, 1) := by decide +kernel
theorem dX12_digest_1 : decode cX12_digest 1 = .ok (.ldc2_w 415, 3) := by decide +kernel
theorem dX12_digest_4 : decode cX12_digest 4 = .ok (.putfield 406, 3) := by decide +kernel
theorem dX12_digest_7 : decode cX12_digest 7 = .ok (.iconst 0, 1) := by decide +kernel
theorem dX12_digest_8 : decode cX12_digest 8 = .ok (.istore_n 1, 1) := by decide +kernel
theorem dX12_digest_9 : decode cX12_digest 9 = .ok (.iload_n 1, 1) := by decide +kernel
theorem dX12_digest_10 : decode cX12_digest 10 = .ok (.bipush 10, 2) := by decide +kernel
theorem dX12_digest_12 : decode cX12_digest 12 = .ok (.if_icmp .ge 19, 3) := by decide +kernel
theorem dX12_digest_15 : decode cX12_digest 15 = .ok (.aload_n 0, 1) := by decide +kernel
theorem dX12_digest_16 : decode cX12_digest 16 = .ok (.aload_n 0, 1) := by decide +kernel
theorem dX12_digest_17 : decode cX12_digest 17 = .ok (.iload_n 1, 1) := by decide +kernel
theorem dX12_digest_18 : decode cX12_digest 18 = .ok (.invokevirtual 401, 3) := by decide +kernel
theorem dX12_digest_21 : decode cX12_digest 21 = .ok (.i2l, 1) := by decide +kernel
theorem dX12_digest_22 : decode cX12_digest 22 = .ok (.invokevirtual 409, 3) := by decide +kernel
theorem dX12_digest_25 : decode cX12_digest 25 = .ok (.iinc 1 1, 3) := by decide +kernel
theorem dX12_digest_28 : decode cX12_digest 28 = .ok (.goto (-19), 3) := by decide +kernel
theorem dX12_digest_31 : decode cX12_digest 31 = .ok (.aload_n 0, 1) := by decide +kernel
theorem dX12_digest_32 : decode cX12_digest 32 = .ok (.invokevirtual 417, 3) := by decide +kernel
theorem dX12_digest_35 : decode cX12_digest 35 = .ok (.aload_n 0, 1) := by decide +kernel
theorem dX12_digest_36 : decode cX12_digest 36 = .ok (.invokevirtual 420, 3) := by decide +kernel
theorem dX12_digest_39 : decode cX12_digest 39 = .ok (.iconst 0, 1) := by decide +kernel
theorem dX12_digest_40 : decode cX12_digest 40 = .ok (.istore_n 1, 1) := by decide +kernel
theorem dX12_digest_41 : decode cX12_digest 41 = .ok (.iload_n 1, 1) := by decide +kernel
theorem dX12_digest_42 : decode cX12_digest 42 = .ok (.bipush 6, 2) := by decide +kernel
theorem dX12_digest_44 : decode cX12_digest 44 = .ok (.if_icmp .ge 49, 3) := by decide +kernel
theorem dX12_digest_47 : decode cX12_digest 47 = .ok (.aload_n 0, 1) := by decide +kernel
theorem dX12_digest_48 : decode cX12_digest 48 = .ok (.aload_n 0, 1) := by decide +kernel
theorem dX12_digest_49 : decode cX12_digest 49 = .ok (.getfield 13, 3) := by decide +kernel
theorem dX12_digest_52 : decode cX12_digest 52 = .ok (.iload_n 1, 1) := by decide +kernel
theorem dX12_digest_53 : decode cX12_digest 53 = .ok (.iaload, 1) := by decide +kernel
theorem dX12_digest_54 : decode cX12_digest 54 = .ok (.i2l, 1) := by decide +kernel
theorem dX12_digest_55 : decode cX12_digest 55 = .ok (.invokevirtual 409, 3) := by decide +kernel
theorem dX12_digest_58 : decode cX12_digest 58 = .ok (.iconst 0, 1) := by decide +kernel
theorem dX12_digest_59 : decode cX12_digest 59 = .ok (.istore_n 2, 1) := by decide +kernel
theorem dX12_digest_60 : decode cX12_digest 60 = .ok (.iload_n 2, 1) := by decide +kernel
theorem dX12_digest_61 : decode cX12_digest 61 = .ok (.aload_n 0, 1) := by decide +kernel
theorem dX12_digest_62 : decode cX12_digest 62 = .ok (.getfield 13, 3) := by decide +kernel
theorem dX12_digest_65 : decode cX12_digest 65 = .ok (.iload_n 1, 1) := by decide +kernel
theorem dX12_digest_66 : decode cX12_digest 66 = .ok (.iaload, 1) := by decide +kernel
theorem dX12_digest_67 : decode cX12_digest 67 = .ok (.if_icmp .ge 20, 3) := by decide +kernel
theorem dX12_digest_70 : decode cX12_digest 70 = .ok (.aload_n 0, 1) := by decide +kernel
theorem dX12_digest_71 : decode cX12_digest 71 = .ok (.aload_n 0, 1) := by decide +kernel
theorem dX12_digest_72 : decode cX12_digest 72 = .ok (.iload_n 1, 1) := by decide +kernel
theorem dX12_digest_73 : decode cX12_digest 73 = .ok (.iload_n 2, 1) := by decide +kernel
theorem dX12_digest_74 : decode cX12_digest 74 = .ok (.invokevirtual 149, 3) := by decide +kernel
theorem dX12_digest_77 : decode cX12_digest 77 = .ok (.i2l, 1) := by decide +kernel
theorem dX12_digest_78 : decode cX12_digest 78 = .ok (.invokevirtual 409, 3) := by decide +kernel
theorem dX12_digest_81 : decode cX12_digest 81 = .ok (.iinc 2 1, 3) := by decide +kernel
theorem dX12_digest_84 : decode cX12_digest 84 = .ok (.goto (-24), 3) := by decide +kernel
theorem dX12_digest_87 : decode cX12_digest 87 = .ok (.iinc 1 1, 3) := by decide +kernel
theorem dX12_digest_90 : decode cX12_digest 90 = .ok (.goto (-49), 3) := by decide +kernel
theorem dX12_digest_93 : decode cX12_digest 93 = .ok (.iconst 0, 1) := by decide +kernel
theorem dX12_digest_94 : decode cX12_digest 94 = .ok (.istore_n 1, 1) := by decide +kernel
theorem dX12_digest_95 : decode cX12_digest 95 = .ok (.iload_n 1, 1) := by decide +kernel
theorem dX12_digest_96 : decode cX12_digest 96 = .ok (.iconst 4, 1) := by decide +kernel
theorem dX12_digest_97 : decode cX12_digest 97 = .ok (.if_icmp .ge 49, 3) := by decide +kernel
theorem dX12_digest_100 : decode cX12_digest 100 = .ok (.aload_n 0, 1) := by decide +kernel
theorem dX12_digest_101 : decode cX12_digest 101 = .ok (.aload_n 0, 1) := by decide +kernel
theorem dX12_digest_102 : decode cX12_digest 102 = .ok (.getfield 22, 3) := by decide +kernel
theorem dX12_digest_105 : decode cX12_digest 105 = .ok (.iload_n 1, 1) := by decide +kernel
theorem dX12_digest_106 : decode cX12_digest 106 = .ok (.iaload, 1) := by decide +kernel
theorem dX12_digest_107 : decode cX12_digest 107 = .ok (.i2l, 1) := by decide +kernel
theorem dX12_digest_108 : decode cX12_digest 108 = .ok (.invokevirtual 409, 3) := by decide +kernel
theorem dX12_digest_111 : decode cX12_digest 111 = .ok (.iconst 0, 1) := by decide +kernel
theorem dX12_digest_112 : decode cX12_digest 112 = .ok (.istore_n 2, 1) := by decide +kernel
theorem dX12_digest_113 : decode cX12_digest 113 = .ok (.iload_n 2, 1) := by decide +kernel
theorem dX12_digest_114 : decode cX12_digest 114 = .ok (.aload_n 0, 1) := by decide +kernel
theorem dX12_digest_115 : decode cX12_digest 115 = .ok (.getfield 22, 3) := by decide +kernel
theorem dX12_digest_118 : decode cX12_digest 118 = .ok (.iload_n 1, 1) := by decide +kernel
theorem dX12_digest_119 : decode cX12_digest 119 = .ok (.iaload, 1) := by decide +kernel
theorem dX12_digest_120 : decode cX12_digest 120 = .ok (.if_icmp .ge 20, 3) := by decide +kernel
theorem dX12_digest_123 : decode cX12_digest 123 = .ok (.aload_n 0, 1) := by decide +kernel
theorem dX12_digest_124 : decode cX12_digest 124 = .ok (.aload_n 0, 1) := by decide +kernel
theorem dX12_digest_125 : decode cX12_digest 125 = .ok (.iload_n 1, 1) := by decide +kernel
theorem dX12_digest_126 : decode cX12_digest 126 = .ok (.iload_n 2, 1) := by decide +kernel
theorem dX12_digest_127 : decode cX12_digest 127 = .ok (.invokevirtual 162, 3) := by decide +kernel
theorem dX12_digest_130 : decode cX12_digest 130 = .ok (.i2l, 1) := by decide +kernel
theorem dX12_digest_131 : decode cX12_digest 131 = .ok (.invokevirtual 409, 3) := by decide +kernel
theorem dX12_digest_134 : decode cX12_digest 134 = .ok (.iinc 2 1, 3) := by decide +kernel
theorem dX12_digest_137 : decode cX12_digest 137 = .ok (.goto (-24), 3) := by decide +kernel
theorem dX12_digest_140 : decode cX12_digest 140 = .ok (.iinc 1 1, 3) := by decide +kernel
theorem dX12_digest_143 : decode cX12_digest 143 = .ok (.goto (-48), 3) := by decide +kernel
theorem dX12_digest_146 : decode cX12_digest 146 = .ok (.aload_n 0, 1) := by decide +kernel
theorem dX12_digest_147 : decode cX12_digest 147 = .ok (.getfield 406, 3) := by decide +kernel
theorem dX12_digest_150 : decode cX12_digest 150 = .ok (.lreturn, 1) := by decide +kernel
theorem dJ6_numberOfTrailingZeros_0f7a4_0 : decode cJ6_numberOfTrailingZeros_0f7a4 0 = .ok (.iload_n 0, 1) := by decide +kernel
theorem dJ6_numberOfTrailingZeros_0f7a4_1 : decode cJ6_numberOfTrailingZeros_0f7a4 1 = .ok (.iconst (-1), 1) := by decide +kernel
theorem dJ6_numberOfTrailingZeros_0f7a4_2 : decode cJ6_numberOfTrailingZeros_0f7a4 2 = .ok (.ixor, 1) := by decide +kernel
theorem dJ6_numberOfTrailingZeros_0f7a4_3 : decode cJ6_numberOfTrailingZeros_0f7a4 3 = .ok (.iload_n 0, 1) := by decide +kernel
theorem dJ6_numberOfTrailingZeros_0f7a4_4 : decode cJ6_numberOfTrailingZeros_0f7a4 4 = .ok (.iconst 1, 1) := by decide +kernel
theorem dJ6_numberOfTrailingZeros_0f7a4_5 : decode cJ6_numberOfTrailingZeros_0f7a4 5 = .ok (.isub, 1) := by decide +kernel
theorem dJ6_numberOfTrailingZeros_0f7a4_6 : decode cJ6_numberOfTrailingZeros_0f7a4 6 = .ok (.iand, 1) := by decide +kernel
theorem dJ6_numberOfTrailingZeros_0f7a4_7 : decode cJ6_numberOfTrailingZeros_0f7a4 7 = .ok (.istore_n 0, 1) := by decide +kernel
theorem dJ6_numberOfTrailingZeros_0f7a4_8 : decode cJ6_numberOfTrailingZeros_0f7a4 8 = .ok (.iload_n 0, 1) := by decide +kernel
theorem dJ6_numberOfTrailingZeros_0f7a4_9 : decode cJ6_numberOfTrailingZeros_0f7a4 9 = .ok (.ifCond .gt 8, 3) := by decide +kernel
theorem dJ6_numberOfTrailingZeros_0f7a4_12 : decode cJ6_numberOfTrailingZeros_0f7a4 12 = .ok (.iload_n 0, 1) := by decide +kernel
theorem dJ6_numberOfTrailingZeros_0f7a4_13 : decode cJ6_numberOfTrailingZeros_0f7a4 13 = .ok (.bipush 32, 2) := by decide +kernel
theorem dJ6_numberOfTrailingZeros_0f7a4_15 : decode cJ6_numberOfTrailingZeros_0f7a4 15 = .ok (.iand, 1) := by decide +kernel
theorem dJ6_numberOfTrailingZeros_0f7a4_16 : decode cJ6_numberOfTrailingZeros_0f7a4 16 = .ok (.ireturn, 1) := by decide +kernel
theorem dJ6_numberOfTrailingZeros_0f7a4_17 : decode cJ6_numberOfTrailingZeros_0f7a4 17 = .ok (.iconst 1, 1) := by decide +kernel
theorem dJ6_numberOfTrailingZeros_0f7a4_18 : decode cJ6_numberOfTrailingZeros_0f7a4 18 = .ok (.istore_n 1, 1) := by decide +kernel
theorem dJ6_numberOfTrailingZeros_0f7a4_19 : decode cJ6_numberOfTrailingZeros_0f7a4 19 = .ok (.iload_n 0, 1) := by decide +kernel
theorem dJ6_numberOfTrailingZeros_0f7a4_20 : decode cJ6_numberOfTrailingZeros_0f7a4 20 = .ok (.ldc_w 264, 3) := by decide +kernel
theorem dJ6_numberOfTrailingZeros_0f7a4_23 : decode cJ6_numberOfTrailingZeros_0f7a4 23 = .ok (.if_icmp .le 11, 3) := by decide +kernel
theorem dJ6_numberOfTrailingZeros_0f7a4_26 : decode cJ6_numberOfTrailingZeros_0f7a4 26 = .ok (.iinc 1 16, 3) := by decide +kernel
theorem dJ6_numberOfTrailingZeros_0f7a4_29 : decode cJ6_numberOfTrailingZeros_0f7a4 29 = .ok (.iload_n 0, 1) := by decide +kernel
theorem dJ6_numberOfTrailingZeros_0f7a4_30 : decode cJ6_numberOfTrailingZeros_0f7a4 30 = .ok (.bipush 16, 2) := by decide +kernel
theorem dJ6_numberOfTrailingZeros_0f7a4_32 : decode cJ6_numberOfTrailingZeros_0f7a4 32 = .ok (.iushr, 1) := by decide +kernel
theorem dJ6_numberOfTrailingZeros_0f7a4_33 : decode cJ6_numberOfTrailingZeros_0f7a4 33 = .ok (.istore_n 0, 1) := by decide +kernel
theorem dJ6_numberOfTrailingZeros_0f7a4_34 : decode cJ6_numberOfTrailingZeros_0f7a4 34 = .ok (.iload_n 0, 1) := by decide +kernel
theorem dJ6_numberOfTrailingZeros_0f7a4_35 : decode cJ6_numberOfTrailingZeros_0f7a4 35 = .ok (.sipush 256, 3) := by decide +kernel
theorem dJ6_numberOfTrailingZeros_0f7a4_38 : decode cJ6_numberOfTrailingZeros_0f7a4 38 = .ok (.if_icmp .le 11, 3) := by decide +kernel
theorem dJ6_numberOfTrailingZeros_0f7a4_41 : decode cJ6_numberOfTrailingZeros_0f7a4 41 = .ok (.iinc 1 8, 3) := by decide +kernel
theorem dJ6_numberOfTrailingZeros_0f7a4_44 : decode cJ6_numberOfTrailingZeros_0f7a4 44 = .ok (.iload_n 0, 1) := by decide +kernel
theorem dJ6_numberOfTrailingZeros_0f7a4_45 : decode cJ6_numberOfTrailingZeros_0f7a4 45 = .ok (.bipush 8, 2) := by decide +kernel
theorem dJ6_numberOfTrailingZeros_0f7a4_47 : decode cJ6_numberOfTrailingZeros_0f7a4 47 = .ok (.iushr, 1) := by decide +kernel
theorem dJ6_numberOfTrailingZeros_0f7a4_48 : decode cJ6_numberOfTrailingZeros_0f7a4 48 = .ok (.istore_n 0, 1) := by decide +kernel
theorem dJ6_numberOfTrailingZeros_0f7a4_49 : decode cJ6_numberOfTrailingZeros_0f7a4 49 = .ok (.iload_n 0, 1) := by decide +kernel
theorem dJ6_numberOfTrailingZeros_0f7a4_50 : decode cJ6_numberOfTrailingZeros_0f7a4 50 = .ok (.bipush 16, 2) := by decide +kernel
theorem dJ6_numberOfTrailingZeros_0f7a4_52 : decode cJ6_numberOfTrailingZeros_0f7a4 52 = .ok (.if_icmp .le 10, 3) := by decide +kernel
theorem dJ6_numberOfTrailingZeros_0f7a4_55 : decode cJ6_numberOfTrailingZeros_0f7a4 55 = .ok (.iinc 1 4, 3) := by decide +kernel
theorem dJ6_numberOfTrailingZeros_0f7a4_58 : decode cJ6_numberOfTrailingZeros_0f7a4 58 = .ok (.iload_n 0, 1) := by decide +kernel
theorem dJ6_numberOfTrailingZeros_0f7a4_59 : decode cJ6_numberOfTrailingZeros_0f7a4 59 = .ok (.iconst 4, 1) := by decide +kernel
theorem dJ6_numberOfTrailingZeros_0f7a4_60 : decode cJ6_numberOfTrailingZeros_0f7a4 60 = .ok (.iushr, 1) := by decide +kernel
theorem dJ6_numberOfTrailingZeros_0f7a4_61 : decode cJ6_numberOfTrailingZeros_0f7a4 61 = .ok (.istore_n 0, 1) := by decide +kernel
theorem dJ6_numberOfTrailingZeros_0f7a4_62 : decode cJ6_numberOfTrailingZeros_0f7a4 62 = .ok (.iload_n 0, 1) := by decide +kernel
theorem dJ6_numberOfTrailingZeros_0f7a4_63 : decode cJ6_numberOfTrailingZeros_0f7a4 63 = .ok (.iconst 4, 1) := by decide +kernel
theorem dJ6_numberOfTrailingZeros_0f7a4_64 : decode cJ6_numberOfTrailingZeros_0f7a4 64 = .ok (.if_icmp .le 10, 3) := by decide +kernel
theorem dJ6_numberOfTrailingZeros_0f7a4_67 : decode cJ6_numberOfTrailingZeros_0f7a4 67 = .ok (.iinc 1 2, 3) := by decide +kernel
theorem dJ6_numberOfTrailingZeros_0f7a4_70 : decode cJ6_numberOfTrailingZeros_0f7a4 70 = .ok (.iload_n 0, 1) := by decide +kernel
theorem dJ6_numberOfTrailingZeros_0f7a4_71 : decode cJ6_numberOfTrailingZeros_0f7a4 71 = .ok (.iconst 2, 1) := by decide +kernel
theorem dJ6_numberOfTrailingZeros_0f7a4_72 : decode cJ6_numberOfTrailingZeros_0f7a4 72 = .ok (.iushr, 1) := by decide +kernel
theorem dJ6_numberOfTrailingZeros_0f7a4_73 : decode cJ6_numberOfTrailingZeros_0f7a4 73 = .ok (.istore_n 0, 1) := by decide +kernel
theorem dJ6_numberOfTrailingZeros_0f7a4_74 : decode cJ6_numberOfTrailingZeros_0f7a4 74 = .ok (.iload_n 1, 1) := by decide +kernel
theorem dJ6_numberOfTrailingZeros_0f7a4_75 : decode cJ6_numberOfTrailingZeros_0f7a4 75 = .ok (.iload_n 0, 1) := by decide +kernel
theorem dJ6_numberOfTrailingZeros_0f7a4_76 : decode cJ6_numberOfTrailingZeros_0f7a4 76 = .ok (.iconst 1, 1) := by decide +kernel
theorem dJ6_numberOfTrailingZeros_0f7a4_77 : decode cJ6_numberOfTrailingZeros_0f7a4 77 = .ok (.iushr, 1) := by decide +kernel
theorem dJ6_numberOfTrailingZeros_0f7a4_78 : decode cJ6_numberOfTrailingZeros_0f7a4 78 = .ok (.iadd, 1) := by decide +kernel
theorem dJ6_numberOfTrailingZeros_0f7a4_79 : decode cJ6_numberOfTrailingZeros_0f7a4 79 = .ok (.ireturn, 1) := by decide +kernel
theorem dJ6_bitCount_0f7a4_0 : decode cJ6_bitCount_0f7a4 0 = .ok (.iload_n 0, 1) := by decide +kernel
theorem dJ6_bitCount_0f7a4_1 : decode cJ6_bitCount_0f7a4 1 = .ok (.iload_n 0, 1) := by decide +kernel
theorem dJ6_bitCount_0f7a4_2 : decode cJ6_bitCount_0f7a4 2 = .ok (.iconst 1, 1) := by decide +kernel
theorem dJ6_bitCount_0f7a4_3 : decode cJ6_bitCount_0f7a4 3 = .ok (.iushr, 1) := by decide +kernel
theorem dJ6_bitCount_0f7a4_4 : decode cJ6_bitCount_0f7a4 4 = .ok (.ldc_w 265, 3) := by decide +kernel
theorem dJ6_bitCount_0f7a4_7 : decode cJ6_bitCount_0f7a4 7 = .ok (.iand, 1) := by decide +kernel
theorem dJ6_bitCount_0f7a4_8 : decode cJ6_bitCount_0f7a4 8 = .ok (.isub, 1) := by decide +kernel
theorem dJ6_bitCount_0f7a4_9 : decode cJ6_bitCount_0f7a4 9 = .ok (.istore_n 0, 1) := by decide +kernel
theorem dJ6_bitCount_0f7a4_10 : decode cJ6_bitCount_0f7a4 10 = .ok (.iload_n 0, 1) := by decide +kernel
theorem dJ6_bitCount_0f7a4_11 : decode cJ6_bitCount_0f7a4 11 = .ok (.ldc_w 266, 3) := by decide +kernel
theorem dJ6_bitCount_0f7a4_14 : decode cJ6_bitCount_0f7a4 14 = .ok (.iand, 1) := by decide +kernel
theorem dJ6_bitCount_0f7a4_15 : decode cJ6_bitCount_0f7a4 15 = .ok (.iload_n 0, 1) := by decide +kernel
theorem dJ6_bitCount_0f7a4_16 : decode cJ6_bitCount_0f7a4 16 = .ok (.iconst 2, 1) := by decide +kernel
theorem dJ6_bitCount_0f7a4_17 : decode cJ6_bitCount_0f7a4 17 = .ok (.iushr, 1) := by decide +kernel
theorem dJ6_bitCount_0f7a4_18 : decode cJ6_bitCount_0f7a4 18 = .ok (.ldc_w 266, 3) := by decide +kernel
theorem dJ6_bitCount_0f7a4_21 : decode cJ6_bitCount_0f7a4 21 = .ok (.iand, 1) := by decide +kernel
theorem dJ6_bitCount_0f7a4_22 : decode cJ6_bitCount_0f7a4 22 = .ok (.iadd, 1) := by decide +kernel
theorem dJ6_bitCount_0f7a4_23 : decode cJ6_bitCount_0f7a4 23 = .ok (.istore_n 0, 1) := by decide +kernel
theorem dJ6_bitCount_0f7a4_24 : decode cJ6_bitCount_0f7a4 24 = .ok (.iload_n 0, 1) := by decide +kernel
theorem dJ6_bitCount_0f7a4_25 : decode cJ6_bitCount_0f7a4 25 = .ok (.iload_n 0, 1) := by decide +kernel
theorem dJ6_bitCount_0f7a4_26 : decode cJ6_bitCount_0f7a4 26 = .ok (.iconst 4, 1) := by decide +kernel
theorem dJ6_bitCount_0f7a4_27 : decode cJ6_bitCount_0f7a4 27 = .ok (.iushr, 1) := by decide +kernel
theorem dJ6_bitCount_0f7a4_28 : decode cJ6_bitCount_0f7a4 28 = .ok (.iadd, 1) := by decide +kernel
theorem dJ6_bitCount_0f7a4_29 : decode cJ6_bitCount_0f7a4 29 = .ok (.ldc_w 267, 3) := by decide +kernel
theorem dJ6_bitCount_0f7a4_32 : decode cJ6_bitCount_0f7a4 32 = .ok (.iand, 1) := by decide +kernel
theorem dJ6_bitCount_0f7a4_33 : decode cJ6_bitCount_0f7a4 33 = .ok (.istore_n 0, 1) := by decide +kernel
theorem dJ6_bitCount_0f7a4_34 : decode cJ6_bitCount_0f7a4 34 = .ok (.iload_n 0, 1) := by decide +kernel
theorem dJ6_bitCount_0f7a4_35 : decode cJ6_bitCount_0f7a4 35 = .ok (.iload_n 0, 1) := by decide +kernel
theorem dJ6_bitCount_0f7a4_36 : decode cJ6_bitCount_0f7a4 36 = .ok (.bipush 8, 2) := by decide +kernel
theorem dJ6_bitCount_0f7a4_38 : decode cJ6_bitCount_0f7a4 38 = .ok (.iushr, 1) := by decide +kernel
theorem dJ6_bitCount_0f7a4_39 : decode cJ6_bitCount_0f7a4 39 = .ok (.iadd, 1) := by decide +kernel
theorem dJ6_bitCount_0f7a4_40 : decode cJ6_bitCount_0f7a4 40 = .ok (.istore_n 0, 1) := by decide +kernel
theorem dJ6_bitCount_0f7a4_41 : decode cJ6_bitCount_0f7a4 41 = .ok (.iload_n 0, 1) := by decide +kernel
theorem dJ6_bitCount_0f7a4_42 : decode cJ6_bitCount_0f7a4 42 = .ok (.iload_n 0, 1) := by decide +kernel
theorem dJ6_bitCount_0f7a4_43 : decode cJ6_bitCount_0f7a4 43 = .ok (.bipush 16, 2) := by decide +kernel
theorem dJ6_bitCount_0f7a4_45 : decode cJ6_bitCount_0f7a4 45 = .ok (.iushr, 1) := by decide +kernel
theorem dJ6_bitCount_0f7a4_46 : decode cJ6_bitCount_0f7a4 46 = .ok (.iadd, 1) := by decide +kernel
theorem dJ6_bitCount_0f7a4_47 : decode cJ6_bitCount_0f7a4 47 = .ok (.istore_n 0, 1) := by decide +kernel
theorem dJ6_bitCount_0f7a4_48 : decode cJ6_bitCount_0f7a4 48 = .ok (.iload_n 0, 1) := by decide +kernel
theorem dJ6_bitCount_0f7a4_49 : decode cJ6_bitCount_0f7a4 49 = .ok (.bipush 63, 2) := by decide +kernel
theorem dJ6_bitCount_0f7a4_51 : decode cJ6_bitCount_0f7a4 51 = .ok (.iand, 1) := by decide +kernel
theorem dJ6_bitCount_0f7a4_52 : decode cJ6_bitCount_0f7a4 52 = .ok (.ireturn, 1) := by decide +kernel
theorem dJ13_numberOfTrailingZeros_95d88_0 : decode cJ13_numberOfTrailingZeros_95d88 0 = .ok (.lload_n 0, 1) := by decide +kernel
theorem dJ13_numberOfTrailingZeros_95d88_1 : decode cJ13_numberOfTrailingZeros_95d88 1 = .ok (.l2i, 1) := by decide +kernel
theorem dJ13_numberOfTrailingZeros_95d88_2 : decode cJ13_numberOfTrailingZeros_95d88 2 = .ok (.istore_n 2, 1) := by decide +kernel
theorem dJ13_numberOfTrailingZeros_95d88_3 : decode cJ13_numberOfTrailingZeros_95d88 3 = .ok (.iload_n 2, 1) := by decide +kernel
theorem dJ13_numberOfTrailingZeros_95d88_4 : decode cJ13_numberOfTrailingZeros_95d88 4 = .ok (.ifCond .ne 17, 3) := by decide +kernel
theorem dJ13_numberOfTrailingZeros_95d88_7 : decode cJ13_numberOfTrailingZeros_95d88 7 = .ok (.bipush 32, 2) := by decide +kernel
theorem dJ13_numberOfTrailingZeros_95d88_9 : decode cJ13_numberOfTrailingZeros_95d88 9 = .ok (.lload_n 0, 1) := by decide +kernel
theorem dJ13_numberOfTrailingZeros_95d88_10 : decode cJ13_numberOfTrailingZeros_95d88 10 = .ok (.bipush 32, 2) := by decide +kernel
theorem dJ13_numberOfTrailingZeros_95d88_12 : decode cJ13_numberOfTrailingZeros_95d88 12 = .ok (.lushr, 1) := by decide +kernel
theorem dJ13_numberOfTrailingZeros_95d88_13 : decode cJ13_numberOfTrailingZeros_95d88 13 = .ok (.l2i, 1) := by decide +kernel
theorem dJ13_numberOfTrailingZeros_95d88_14 : decode cJ13_numberOfTrailingZeros_95d88 14 = .ok (.invokestatic 311, 3) := by decide +kernel
theorem dJ13_numberOfTrailingZeros_95d88_17 : decode cJ13_numberOfTrailingZeros_95d88 17 = .ok (.iadd, 1) := by decide +kernel
theorem dJ13_numberOfTrailingZeros_95d88_18 : decode cJ13_numberOfTrailingZeros_95d88 18 = .ok (.goto 7, 3) := by decide +kernel
theorem dJ13_numberOfTrailingZeros_95d88_21 : decode cJ13_numberOfTrailingZeros_95d88 21 = .ok (.iload_n 2, 1) := by decide +kernel
theorem dJ13_numberOfTrailingZeros_95d88_22 : decode cJ13_numberOfTrailingZeros_95d88 22 = .ok (.invokestatic 311, 3) := by decide +kernel
theorem dJ13_numberOfTrailingZeros_95d88_25 : decode cJ13_numberOfTrailingZeros_95d88 25 = .ok (.ireturn, 1) := by decide +kernel
theorem dJ13_bitCount_95d88_0 : decode cJ13_bitCount_95d88 0 = .ok (.lload_n 0, 1) := by decide +kernel
theorem dJ13_bitCount_95d88_1 : decode cJ13_bitCount_95d88 1 = .ok (.lload_n 0, 1) := by decide +kernel
theorem dJ13_bitCount_95d88_2 : decode cJ13_bitCount_95d88 2 = .ok (.iconst 1, 1) := by decide +kernel
theorem dJ13_bitCount_95d88_3 : decode cJ13_bitCount_95d88 3 = .ok (.lushr, 1) := by decide +kernel
theorem dJ13_bitCount_95d88_4 : decode cJ13_bitCount_95d88 4 = .ok (.ldc2_w 314, 3) := by decide +kernel
theorem dJ13_bitCount_95d88_7 : decode cJ13_bitCount_95d88 7 = .ok (.land, 1) := by decide +kernel
theorem dJ13_bitCount_95d88_8 : decode cJ13_bitCount_95d88 8 = .ok (.lsub, 1) := by decide +kernel
theorem dJ13_bitCount_95d88_9 : decode cJ13_bitCount_95d88 9 = .ok (.lstore_n 0, 1) := by decide +kernel
theorem dJ13_bitCount_95d88_10 : decode cJ13_bitCount_95d88 10 = .ok (.lload_n 0, 1) := by decide +kernel
theorem dJ13_bitCount_95d88_11 : decode cJ13_bitCount_95d88 11 = .ok (.ldc2_w 316, 3) := by decide +kernel
theorem dJ13_bitCount_95d88_14 : decode cJ13_bitCount_95d88 14 = .ok (.land, 1) := by decide +kernel
theorem dJ13_bitCount_95d88_15 : decode cJ13_bitCount_95d88 15 = .ok (.lload_n 0, 1) := by decide +kernel
theorem dJ13_bitCount_95d88_16 : decode cJ13_bitCount_95d88 16 = .ok (.iconst 2, 1) := by decide +kernel
theorem dJ13_bitCount_95d88_17 : decode cJ13_bitCount_95d88 17 = .ok (.lushr, 1) := by decide +kernel
theorem dJ13_bitCount_95d88_18 : decode cJ13_bitCount_95d88 18 = .ok (.ldc2_w 316, 3) := by decide +kernel
theorem dJ13_bitCount_95d88_21 : decode cJ13_bitCount_95d88 21 = .ok (.land, 1) := by decide +kernel
theorem dJ13_bitCount_95d88_22 : decode cJ13_bitCount_95d88 22 = .ok (.ladd, 1) := by decide +kernel
theorem dJ13_bitCount_95d88_23 : decode cJ13_bitCount_95d88 23 = .ok (.lstore_n 0, 1) := by decide +kernel
theorem dJ13_bitCount_95d88_24 : decode cJ13_bitCount_95d88 24 = .ok (.lload_n 0, 1) := by decide +kernel
theorem dJ13_bitCount_95d88_25 : decode cJ13_bitCount_95d88 25 = .ok (.lload_n 0, 1) := by decide +kernel
theorem dJ13_bitCount_95d88_26 : decode cJ13_bitCount_95d88 26 = .ok (.iconst 4, 1) := by decide +kernel
theorem dJ13_bitCount_95d88_27 : decode cJ13_bitCount_95d88 27 = .ok (.lushr, 1) := by decide +kernel
theorem dJ13_bitCount_95d88_28 : decode cJ13_bitCount_95d88 28 = .ok (.ladd, 1) := by decide +kernel
theorem dJ13_bitCount_95d88_29 : decode cJ13_bitCount_95d88 29 = .ok (.ldc2_w 318, 3) := by decide +kernel
theorem dJ13_bitCount_95d88_32 : decode cJ13_bitCount_95d88 32 = .ok (.land, 1) := by decide +kernel
theorem dJ13_bitCount_95d88_33 : decode cJ13_bitCount_95d88 33 = .ok (.lstore_n 0, 1) := by decide +kernel
theorem dJ13_bitCount_95d88_34 : decode cJ13_bitCount_95d88 34 = .ok (.lload_n 0, 1) := by decide +kernel
theorem dJ13_bitCount_95d88_35 : decode cJ13_bitCount_95d88 35 = .ok (.lload_n 0, 1) := by decide +kernel
theorem dJ13_bitCount_95d88_36 : decode cJ13_bitCount_95d88 36 = .ok (.bipush 8, 2) := by decide +kernel
theorem dJ13_bitCount_95d88_38 : decode cJ13_bitCount_95d88 38 = .ok (.lushr, 1) := by decide +kernel
theorem dJ13_bitCount_95d88_39 : decode cJ13_bitCount_95d88 39 = .ok (.ladd, 1) := by decide +kernel
theorem dJ13_bitCount_95d88_40 : decode cJ13_bitCount_95d88 40 = .ok (.lstore_n 0, 1) := by decide +kernel
theorem dJ13_bitCount_95d88_41 : decode cJ13_bitCount_95d88 41 = .ok (.lload_n 0, 1) := by decide +kernel
theorem dJ13_bitCount_95d88_42 : decode cJ13_bitCount_95d88 42 = .ok (.lload_n 0, 1) := by decide +kernel
theorem dJ13_bitCount_95d88_43 : decode cJ13_bitCount_95d88 43 = .ok (.bipush 16, 2) := by decide +kernel
theorem dJ13_bitCount_95d88_45 : decode cJ13_bitCount_95d88 45 = .ok (.lushr, 1) := by decide +kernel
theorem dJ13_bitCount_95d88_46 : decode cJ13_bitCount_95d88 46 = .ok (.ladd, 1) := by decide +kernel
theorem dJ13_bitCount_95d88_47 : decode cJ13_bitCount_95d88 47 = .ok (.lstore_n 0, 1) := by decide +kernel
theorem dJ13_bitCount_95d88_48 : decode cJ13_bitCount_95d88 48 = .ok (.lload_n 0, 1) := by decide +kernel
theorem dJ13_bitCount_95d88_49 : decode cJ13_bitCount_95d88 49 = .ok (.lload_n 0, 1) := by decide +kernel
theorem dJ13_bitCount_95d88_50 : decode cJ13_bitCount_95d88 50 = .ok (.bipush 32, 2) := by decide +kernel
theorem dJ13_bitCount_95d88_52 : decode cJ13_bitCount_95d88 52 = .ok (.lushr, 1) := by decide +kernel
theorem dJ13_bitCount_95d88_53 : decode cJ13_bitCount_95d88 53 = .ok (.ladd, 1) := by decide +kernel
theorem dJ13_bitCount_95d88_54 : decode cJ13_bitCount_95d88 54 = .ok (.lstore_n 0, 1) := by decide +kernel
theorem dJ13_bitCount_95d88_55 : decode cJ13_bitCount_95d88 55 = .ok (.lload_n 0, 1) := by decide +kernel
theorem dJ13_bitCount_95d88_56 : decode cJ13_bitCount_95d88 56 = .ok (.l2i, 1) := by decide +kernel
theorem dJ13_bitCount_95d88_57 : decode cJ13_bitCount_95d88 57 = .ok (.bipush 127, 2) := by decide +kernel
theorem dJ13_bitCount_95d88_59 : decode cJ13_bitCount_95d88 59 = .ok (.iand, 1) := by decide +kernel
theorem dJ13_bitCount_95d88_60 : decode cJ13_bitCount_95d88 60 = .ok (.ireturn, 1) := by decide +kernel
theorem dJ9_abs_0f7a4_0 : decode cJ9_abs_0f7a4 0 = .ok (.iload_n 0, 1) := by decide +kernel
theorem dJ9_abs_0f7a4_1 : decode cJ9_abs_0f7a4 1 = .ok (.ifCond .ge 8, 3) := by decide +kernel
theorem dJ9_abs_0f7a4_4 : decode cJ9_abs_0f7a4 4 = .ok (.iload_n 0, 1) := by decide +kernel
theorem dJ9_abs_0f7a4_5 : decode cJ9_abs_0f7a4 5 = .ok (.ineg, 1) := by decide +kernel
theorem dJ9_abs_0f7a4_6 : decode cJ9_abs_0f7a4 6 = .ok (.goto 4, 3) := by decide +kernel
theorem dJ9_abs_0f7a4_9 : decode cJ9_abs_0f7a4 9 = .ok (.iload_n 0, 1) := by decide +kernel
theorem dJ9_abs_0f7a4_10 : decode cJ9_abs_0f7a4 10 = .ok (.ireturn, 1) := by decide +kernel
theorem dJ9_max_7cf53_0 : decode cJ9_max_7cf53 0 = .ok (.iload_n 0, 1) := by decide +kernel
theorem dJ9_max_7cf53_1 : decode cJ9_max_7cf53 1 = .ok (.iload_n 1, 1) := by decide +kernel
theorem dJ9_max_7cf53_2 : decode cJ9_max_7cf53 2 = .ok (.if_icmp .lt 7, 3) := by decide +kernel
theorem dJ9_max_7cf53_5 : decode cJ9_max_7cf53 5 = .ok (.iload_n 0, 1) := by decide +kernel
theorem dJ9_max_7cf53_6 : decode cJ9_max_7cf53 6 = .ok (.goto 4, 3) := by decide +kernel
theorem dJ9_max_7cf53_9 : decode cJ9_max_7cf53 9 = .ok (.iload_n 1, 1) := by decide +kernel
theorem dJ9_max_7cf53_10 : decode cJ9_max_7cf53 10 = .ok (.ireturn, 1) := by decide +kernel
theorem dJ9_min_7cf53_0 : decode cJ9_min_7cf53 0 = .ok (.iload_n 0, 1) := by decide +kernel
theorem dJ9_min_7cf53_1 : decode cJ9_min_7cf53 1 = .ok (.iload_n 1, 1) := by decide +kernel
theorem dJ9_min_7cf53_2 : decode cJ9_min_7cf53 2 = .ok (.if_icmp .gt 7, 3) := by decide +kernel
theorem dJ9_min_7cf53_5 : decode cJ9_min_7cf53 5 = .ok (.iload_n 0, 1) := by decide +kernel
theorem dJ9_min_7cf53_6 : decode cJ9_min_7cf53 6 = .ok (.goto 4, 3) := by decide +kernel
theorem dJ9_min_7cf53_9 : decode cJ9_min_7cf53 9 = .ok (.iload_n 1, 1) := by decide +kernel
theorem dJ9_min_7cf53_10 : decode cJ9_min_7cf53 10 = .ok (.ireturn, 1) := by decide +kernel
theorem dL_law_0 : decode cL_law 0 = .ok (.new 7, 3) := by decide +kernel
theorem dL_law_3 : decode cL_law 3 = .ok (.dup, 1) := by decide +kernel
theorem dL_law_4 : decode cL_law 4 = .ok (.invokespecial 9, 3) := by decide +kernel
theorem dL_law_7 : decode cL_law 7 = .ok (.astore_n 1, 1) := by decide +kernel
theorem dL_law_8 : decode cL_law 8 = .ok (.new 10, 3) := by decide +kernel
theorem dL_law_11 : decode cL_law 11 = .ok (.dup, 1) := by decide +kernel
theorem dL_law_12 : decode cL_law 12 = .ok (.invokespecial 12, 3) := by decide +kernel
theorem dL_law_15 : decode cL_law 15 = .ok (.astore_n 2, 1) := by decide +kernel
theorem dL_law_16 : decode cL_law 16 = .ok (.iconst 0, 1) := by decide +kernel
theorem dL_law_17 : decode cL_law 17 = .ok (.istore_n 3, 1) := by decide +kernel
theorem dL_law_18 : decode cL_law 18 = .ok (.iload_n 3, 1) := by decide +kernel
theorem dL_law_19 : decode cL_law 19 = .ok (.aload_n 0, 1) := by decide +kernel
theorem dL_law_20 : decode cL_law 20 = .ok (.arraylength, 1) := by decide +kernel
theorem dL_law_21 : decode cL_law 21 = .ok (.bipush 6, 2) := by decide +kernel
theorem dL_law_23 : decode cL_law 23 = .ok (.isub, 1) := by decide +kernel
theorem dL_law_24 : decode cL_law 24 = .ok (.if_icmp .gt 1726, 3) := by decide +kernel
theorem dL_law_27 : decode cL_law 27 = .ok (.aload_n 0, 1) := by decide +kernel
theorem dL_law_28 : decode cL_law 28 = .ok (.iload_n 3, 1) := by decide +kernel
theorem dL_law_29 : decode cL_law 29 = .ok (.iaload, 1) := by decide +kernel
theorem dL_law_30 : decode cL_law 30 = .ok (.bipush 63, 2) := by decide +kernel
theorem dL_law_32 : decode cL_law 32 = .ok (.iand, 1) := by decide +kernel
theorem dL_law_33 : decode cL_law 33 = .ok (.tableswitch 1711 0 48 #[211, 244, 287, 320, 343, 406, 429, 462, 505, 528, 551, 584, 617, 640, 683, 716, 749, 772, 805, 838, 871, 904, 937, 990, 1023, 1036, 1069, 1102, 1125, 1158, 1211, 1244, 1267, 1300, 1333, 1366, 1409, 1442, 1485, 1518, 1541, 1564, 1597, 1610, 1624, 1638, 1661, 1674, 1697], 211) := by decide +kernel
theorem dL_law_244 : decode cL_law 244 = .ok (.aload_n 1, 1) := by decide +kernel
theorem dL_law_245 : decode cL_law 245 = .ok (.aload_n 0, 1) := by decide +kernel
theorem dL_law_246 : decode cL_law 246 = .ok (.iload_n 3, 1) := by decide +kernel
theorem dL_law_247 : decode cL_law 247 = .ok (.iconst 1, 1) := by decide +kernel
theorem dL_law_248 : decode cL_law 248 = .ok (.iadd, 1) := by decide +kernel
theorem dL_law_249 : decode cL_law 249 = .ok (.iaload, 1) := by decide +kernel
theorem dL_law_250 : decode cL_law 250 = .ok (.aload_n 0, 1) := by decide +kernel
theorem dL_law_251 : decode cL_law 251 = .ok (.iload_n 3, 1) := by decide +kernel
theorem dL_law_252 : decode cL_law 252 = .ok (.iconst 2, 1) := by decide +kernel
theorem dL_law_253 : decode cL_law 253 = .ok (.iadd, 1) := by decide +kernel
theorem dL_law_254 : decode cL_law 254 = .ok (.iaload, 1) := by decide +kernel
theorem dL_law_255 : decode cL_law 255 = .ok (.invokevirtual 13, 3) := by decide +kernel
theorem dL_law_258 : decode cL_law 258 = .ok (.aload_n 2, 1) := by decide +kernel
theorem dL_law_259 : decode cL_law 259 = .ok (.aload_n 0, 1) := by decide +kernel
theorem dL_law_260 : decode cL_law 260 = .ok (.iload_n 3, 1) := by decide +kernel
theorem dL_law_261 : decode cL_law 261 = .ok (.iconst 1, 1) := by decide +kernel
theorem dL_law_262 : decode cL_law 262 = .ok (.iadd, 1) := by decide +kernel
theorem dL_law_263 : decode cL_law 263 = .ok (.iaload, 1) := by decide +kernel
theorem dL_law_264 : decode cL_law 264 = .ok (.aload_n 0, 1) := by decide +kernel
theorem dL_law_265 : decode cL_law 265 = .ok (.iload_n 3, 1) := by decide +kernel
theorem dL_law_266 : decode cL_law 266 = .ok (.iconst 2, 1) := by decide +kernel
theorem dL_law_267 : decode cL_law 267 = .ok (.iadd, 1) := by decide +kernel
theorem dL_law_268 : decode cL_law 268 = .ok (.iaload, 1) := by decide +kernel
theorem dL_law_269 : decode cL_law 269 = .ok (.invokevirtual 17, 3) := by decide +kernel
theorem dL_law_272 : decode cL_law 272 = .ok (.if_icmp .eq 1472, 3) := by decide +kernel
theorem dL_law_275 : decode cL_law 275 = .ok (.iconst 0, 1) := by decide +kernel
theorem dL_law_276 : decode cL_law 276 = .ok (.ireturn, 1) := by decide +kernel
theorem dL_law_277 : decode cL_law 277 = .ok (.aload_n 1, 1) := by decide +kernel
theorem dL_law_278 : decode cL_law 278 = .ok (.aload_n 0, 1) := by decide +kernel
theorem dL_law_279 : decode cL_law 279 = .ok (.iload_n 3, 1) := by decide +kernel
theorem dL_law_280 : decode cL_law 280 = .ok (.iconst 1, 1) := by decide +kernel
theorem dL_law_281 : decode cL_law 281 = .ok (.iadd, 1) := by decide +kernel
theorem dL_law_282 : decode cL_law 282 = .ok (.iaload, 1) := by decide +kernel
theorem dL_law_283 : decode cL_law 283 = .ok (.aload_n 0, 1) := by decide +kernel
theorem dL_law_284 : decode cL_law 284 = .ok (.iload_n 3, 1) := by decide +kernel
theorem dL_law_285 : decode cL_law 285 = .ok (.iconst 2, 1) := by decide +kernel
theorem dL_law_286 : decode cL_law 286 = .ok (.iadd, 1) := by decide +kernel
theorem dL_law_287 : decode cL_law 287 = .ok (.iaload, 1) := by decide +kernel
theorem dL_law_288 : decode cL_law 288 = .ok (.aload_n 0, 1) := by decide +kernel
theorem dL_law_289 : decode cL_law 289 = .ok (.iload_n 3, 1) := by decide +kernel
theorem dL_law_290 : decode cL_law 290 = .ok (.iconst 3, 1) := by decide +kernel
theorem dL_law_291 : decode cL_law 291 = .ok (.iadd, 1) := by decide +kernel
theorem dL_law_292 : decode cL_law 292 = .ok (.iaload, 1) := by decide +kernel
theorem dL_law_293 : decode cL_law 293 = .ok (.invokevirtual 18, 3) := by decide +kernel
theorem dL_law_296 : decode cL_law 296 = .ok (.aload_n 2, 1) := by decide +kernel
theorem dL_law_297 : decode cL_law 297 = .ok (.aload_n 0, 1) := by decide +kernel
theorem dL_law_298 : decode cL_law 298 = .ok (.iload_n 3, 1) := by decide +kernel
theorem dL_law_299 : decode cL_law 299 = .ok (.iconst 1, 1) := by decide +kernel
theorem dL_law_300 : decode cL_law 300 = .ok (.iadd, 1) := by decide +kernel
theorem dL_law_301 : decode cL_law 301 = .ok (.iaload, 1) := by decide +kernel
theorem dL_law_302 : decode cL_law 302 = .ok (.aload_n 0, 1) := by decide +kernel
theorem dL_law_303 : decode cL_law 303 = .ok (.iload_n 3, 1) := by decide +kernel
theorem dL_law_304 : decode cL_law 304 = .ok (.iconst 2, 1) := by decide +kernel
theorem dL_law_305 : decode cL_law 305 = .ok (.iadd, 1) := by decide +kernel
theorem dL_law_306 : decode cL_law 306 = .ok (.iaload, 1) := by decide +kernel
theorem dL_law_307 : decode cL_law 307 = .ok (.aload_n 0, 1) := by decide +kernel
theorem dL_law_308 : decode cL_law 308 = .ok (.iload_n 3, 1) := by decide +kernel
theorem dL_law_309 : decode cL_law 309 = .ok (.iconst 3, 1) := by decide +kernel
theorem dL_law_310 : decode cL_law 310 = .ok (.iadd, 1) := by decide +kernel
theorem dL_law_311 : decode cL_law 311 = .ok (.iaload, 1) := by decide +kernel
theorem dL_law_312 : decode cL_law 312 = .ok (.invokevirtual 22, 3) := by decide +kernel
theorem dL_law_315 : decode cL_law 315 = .ok (.if_icmp .eq 1429, 3) := by decide +kernel
theorem dL_law_318 : decode cL_law 318 = .ok (.iconst 0, 1) := by decide +kernel
theorem dL_law_319 : decode cL_law 319 = .ok (.ireturn, 1) := by decide +kernel
theorem dL_law_320 : decode cL_law 320 = .ok (.aload_n 1, 1) := by decide +kernel
theorem dL_law_321 : decode cL_law 321 = .ok (.aload_n 0, 1) := by decide +kernel
theorem dL_law_322 : decode cL_law 322 = .ok (.iload_n 3, 1) := by decide +kernel
theorem dL_law_323 : decode cL_law 323 = .ok (.iconst 1, 1) := by decide +kernel
theorem dL_law_324 : decode cL_law 324 = .ok (.iadd, 1) := by decide +kernel
theorem dL_law_325 : decode cL_law 325 = .ok (.iaload, 1) := by decide +kernel
theorem dL_law_326 : decode cL_law 326 = .ok (.aload_n 0, 1) := by decide +kernel
theorem dL_law_327 : decode cL_law 327 = .ok (.iload_n 3, 1) := by decide +kernel
theorem dL_law_328 : decode cL_law 328 = .ok (.iconst 2, 1) := by decide +kernel
theorem dL_law_329 : decode cL_law 329 = .ok (.iadd, 1) := by decide +kernel
theorem dL_law_330 : decode cL_law 330 = .ok (.iaload, 1) := by decide +kernel
theorem dL_law_331 : decode cL_law 331 = .ok (.invokevirtual 23, 3) := by decide +kernel
theorem dL_law_334 : decode cL_law 334 = .ok (.aload_n 2, 1) := by decide +kernel
theorem dL_law_335 : decode cL_law 335 = .ok (.aload_n 0, 1) := by decide +kernel
theorem dL_law_336 : decode cL_law 336 = .ok (.iload_n 3, 1) := by decide +kernel
theorem dL_law_337 : decode cL_law 337 = .ok (.iconst 1, 1) := by decide +kernel
theorem dL_law_338 : decode cL_law 338 = .ok (.iadd, 1) := by decide +kernel
theorem dL_law_339 : decode cL_law 339 = .ok (.iaload, 1) := by decide +kernel
theorem dL_law_340 : decode cL_law 340 = .ok (.aload_n 0, 1) := by decide +kernel
theorem dL_law_341 : decode cL_law 341 = .ok (.iload_n 3, 1) := by decide +kernel
theorem dL_law_342 : decode cL_law 342 = .ok (.iconst 2, 1) := by decide +kernel
theorem dL_law_343 : decode cL_law 343 = .ok (.iadd, 1) := by decide +kernel
theorem dL_law_344 : decode cL_law 344 = .ok (.iaload, 1) := by decide +kernel
theorem dL_law_345 : decode cL_law 345 = .ok (.invokevirtual 26, 3) := by decide +kernel
theorem dL_law_348 : decode cL_law 348 = .ok (.if_icmp .eq 1396, 3) := by decide +kernel
theorem dL_law_351 : decode cL_law 351 = .ok (.iconst 0, 1) := by decide +kernel
theorem dL_law_352 : decode cL_law 352 = .ok (.ireturn, 1) := by decide +kernel
theorem dL_law_353 : decode cL_law 353 = .ok (.aload_n 1, 1) := by decide +kernel
theorem dL_law_354 : decode cL_law 354 = .ok (.aload_n 0, 1) := by decide +kernel
theorem dL_law_355 : decode cL_law 355 = .ok (.iload_n 3, 1) := by decide +kernel
theorem dL_law_356 : decode cL_law 356 = .ok (.iconst 1, 1) := by decide +kernel
theorem dL_law_357 : decode cL_law 357 = .ok (.iadd, 1) := by decide +kernel
theorem dL_law_358 : decode cL_law 358 = .ok (.iaload, 1) := by decide +kernel
theorem dL_law_359 : decode cL_law 359 = .ok (.invokevirtual 27, 3) := by decide +kernel
theorem dL_law_362 : decode cL_law 362 = .ok (.aload_n 2, 1) := by decide +kernel
theorem dL_law_363 : decode cL_law 363 = .ok (.aload_n 0, 1) := by decide +kernel
theorem dL_law_364 : decode cL_law 364 = .ok (.iload_n 3, 1) := by decide +kernel
theorem dL_law_365 : decode cL_law 365 = .ok (.iconst 1, 1) := by decide +kernel
theorem dL_law_366 : decode cL_law 366 = .ok (.iadd, 1) := by decide +kernel
theorem dL_law_367 : decode cL_law 367 = .ok (.iaload, 1) := by decide +kernel
theorem dL_law_368 : decode cL_law 368 = .ok (.invokevirtual 31, 3) := by decide +kernel
theorem dL_law_371 : decode cL_law 371 = .ok (.if_icmp .eq 1373, 3) := by decide +kernel
theorem dL_law_374 : decode cL_law 374 = .ok (.iconst 0, 1) := by decide +kernel
theorem dL_law_375 : decode cL_law 375 = .ok (.ireturn, 1) := by decide +kernel
theorem dL_law_376 : decode cL_law 376 = .ok (.aload_n 1, 1) := by decide +kernel
theorem dL_law_377 : decode cL_law 377 = .ok (.aload_n 0, 1) := by decide +kernel
theorem dL_law_378 : decode cL_law 378 = .ok (.iload_n 3, 1) := by decide +kernel
theorem dL_law_379 : decode cL_law 379 = .ok (.iconst 1, 1) := by decide +kernel
theorem dL_law_380 : decode cL_law 380 = .ok (.iadd, 1) := by decide +kernel
theorem dL_law_381 : decode cL_law 381 = .ok (.iaload, 1) := by decide +kernel
theorem dL_law_382 : decode cL_law 382 = .ok (.aload_n 0, 1) := by decide +kernel
theorem dL_law_383 : decode cL_law 383 = .ok (.iload_n 3, 1) := by decide +kernel
theorem dL_law_384 : decode cL_law 384 = .ok (.iconst 2, 1) := by decide +kernel
theorem dL_law_385 : decode cL_law 385 = .ok (.iadd, 1) := by decide +kernel
theorem dL_law_386 : decode cL_law 386 = .ok (.iaload, 1) := by decide +kernel
theorem dL_law_387 : decode cL_law 387 = .ok (.aload_n 0, 1) := by decide +kernel
theorem dL_law_388 : decode cL_law 388 = .ok (.iload_n 3, 1) := by decide +kernel
theorem dL_law_389 : decode cL_law 389 = .ok (.iconst 3, 1) := by decide +kernel
theorem dL_law_390 : decode cL_law 390 = .ok (.iadd, 1) := by decide +kernel
theorem dL_law_391 : decode cL_law 391 = .ok (.iaload, 1) := by decide +kernel
theorem dL_law_392 : decode cL_law 392 = .ok (.aload_n 0, 1) := by decide +kernel
theorem dL_law_393 : decode cL_law 393 = .ok (.iload_n 3, 1) := by decide +kernel
theorem dL_law_394 : decode cL_law 394 = .ok (.iconst 4, 1) := by decide +kernel
theorem dL_law_395 : decode cL_law 395 = .ok (.iadd, 1) := by decide +kernel
theorem dL_law_396 : decode cL_law 396 = .ok (.iaload, 1) := by decide +kernel
theorem dL_law_397 : decode cL_law 397 = .ok (.aload_n 0, 1) := by decide +kernel
theorem dL_law_398 : decode cL_law 398 = .ok (.iload_n 3, 1) := by decide +kernel
theorem dL_law_399 : decode cL_law 399 = .ok (.iconst 5, 1) := by decide +kernel
theorem dL_law_400 : decode cL_law 400 = .ok (.iadd, 1) := by decide +kernel
theorem dL_law_401 : decode cL_law 401 = .ok (.iaload, 1) := by decide +kernel
theorem dL_law_402 : decode cL_law 402 = .ok (.invokevirtual 32, 3) := by decide +kernel
theorem dL_law_405 : decode cL_law 405 = .ok (.aload_n 2, 1) := by decide +kernel
theorem dL_law_406 : decode cL_law 406 = .ok (.aload_n 0, 1) := by decide +kernel
theorem dL_law_407 : decode cL_law 407 = .ok (.iload_n 3, 1) := by decide +kernel
theorem dL_law_408 : decode cL_law 408 = .ok (.iconst 1, 1) := by decide +kernel
theorem dL_law_409 : decode cL_law 409 = .ok (.iadd, 1) := by decide +kernel
theorem dL_law_410 : decode cL_law 410 = .ok (.iaload, 1) := by decide +kernel
theorem dL_law_411 : decode cL_law 411 = .ok (.aload_n 0, 1) := by decide +kernel
theorem dL_law_412 : decode cL_law 412 = .ok (.iload_n 3, 1) := by decide +kernel
theorem dL_law_413 : decode cL_law 413 = .ok (.iconst 2, 1) := by decide +kernel
theorem dL_law_414 : decode cL_law 414 = .ok (.iadd, 1) := by decide +kernel
theorem dL_law_415 : decode cL_law 415 = .ok (.iaload, 1) := by decide +kernel
theorem dL_law_416 : decode cL_law 416 = .ok (.aload_n 0, 1) := by decide +kernel
theorem dL_law_417 : decode cL_law 417 = .ok (.iload_n 3, 1) := by decide +kernel
theorem dL_law_418 : decode cL_law 418 = .ok (.iconst 3, 1) := by decide +kernel
theorem dL_law_419 : decode cL_law 419 = .ok (.iadd, 1) := by decide +kernel
theorem dL_law_420 : decode cL_law 420 = .ok (.iaload, 1) := by decide +kernel
theorem dL_law_421 : decode cL_law 421 = .ok (.aload_n 0, 1) := by decide +kernel
theorem dL_law_422 : decode cL_law 422 = .ok (.iload_n 3, 1) := by decide +kernel
theorem dL_law_423 : decode cL_law 423 = .ok (.iconst 4, 1) := by decide +kernel
theorem dL_law_424 : decode cL_law 424 = .ok (.iadd, 1) := by decide +kernel
theorem dL_law_425 : decode cL_law 425 = .ok (.iaload, 1) := by decide +kernel
theorem dL_law_426 : decode cL_law 426 = .ok (.aload_n 0, 1) := by decide +kernel
theorem dL_law_427 : decode cL_law 427 = .ok (.iload_n 3, 1) := by decide +kernel
theorem dL_law_428 : decode cL_law 428 = .ok (.iconst 5, 1) := by decide +kernel
theorem dL_law_429 : decode cL_law 429 = .ok (.iadd, 1) := by decide +kernel
theorem dL_law_430 : decode cL_law 430 = .ok (.iaload, 1) := by decide +kernel
theorem dL_law_431 : decode cL_law 431 = .ok (.invokevirtual 36, 3) := by decide +kernel
theorem dL_law_434 : decode cL_law 434 = .ok (.if_icmp .eq 1310, 3) := by decide +kernel
theorem dL_law_437 : decode cL_law 437 = .ok (.iconst 0, 1) := by decide +kernel
theorem dL_law_438 : decode cL_law 438 = .ok (.ireturn, 1) := by decide +kernel
theorem dL_law_439 : decode cL_law 439 = .ok (.aload_n 1, 1) := by decide +kernel
theorem dL_law_440 : decode cL_law 440 = .ok (.aload_n 0, 1) := by decide +kernel
theorem dL_law_441 : decode cL_law 441 = .ok (.iload_n 3, 1) := by decide +kernel
theorem dL_law_442 : decode cL_law 442 = .ok (.iconst 1, 1) := by decide +kernel
theorem dL_law_443 : decode cL_law 443 = .ok (.iadd, 1) := by decide +kernel
theorem dL_law_444 : decode cL_law 444 = .ok (.iaload, 1) := by decide +kernel
theorem dL_law_445 : decode cL_law 445 = .ok (.invokevirtual 37, 3) := by decide +kernel
theorem dL_law_448 : decode cL_law 448 = .ok (.aload_n 2, 1) := by decide +kernel
theorem dL_law_449 : decode cL_law 449 = .ok (.aload_n 0, 1) := by decide +kernel
theorem dL_law_450 : decode cL_law 450 = .ok (.iload_n 3, 1) := by decide +kernel
theorem dL_law_451 : decode cL_law 451 = .ok (.iconst 1, 1) := by decide +kernel
theorem dL_law_452 : decode cL_law 452 = .ok (.iadd, 1) := by decide +kernel
theorem dL_law_453 : decode cL_law 453 = .ok (.iaload, 1) := by decide +kernel
theorem dL_law_454 : decode cL_law 454 = .ok (.invokevirtual 40, 3) := by decide +kernel
theorem dL_law_457 : decode cL_law 457 = .ok (.if_icmp .eq 1287, 3) := by decide +kernel
theorem dL_law_460 : decode cL_law 460 = .ok (.iconst 0, 1) := by decide +kernel
theorem dL_law_461 : decode cL_law 461 = .ok (.ireturn, 1) := by decide +kernel
theorem dL_law_462 : decode cL_law 462 = .ok (.aload_n 1, 1) := by decide +kernel
theorem dL_law_463 : decode cL_law 463 = .ok (.aload_n 0, 1) := by decide +kernel
theorem dL_law_464 : decode cL_law 464 = .ok (.iload_n 3, 1) := by decide +kernel
theorem dL_law_465 : decode cL_law 465 = .ok (.iconst 1, 1) := by decide +kernel
theorem dL_law_466 : decode cL_law 466 = .ok (.iadd, 1) := by decide +kernel
theorem dL_law_467 : decode cL_law 467 = .ok (.iaload, 1) := by decide +kernel
theorem dL_law_468 : decode cL_law 468 = .ok (.aload_n 0, 1) := by decide +kernel
theorem dL_law_469 : decode cL_law 469 = .ok (.iload_n 3, 1) := by decide +kernel
theorem dL_law_470 : decode cL_law 470 = .ok (.iconst 2, 1) := by decide +kernel
theorem dL_law_471 : decode cL_law 471 = .ok (.iadd, 1) := by decide +kernel
theorem dL_law_472 : decode cL_law 472 = .ok (.iaload, 1) := by decide +kernel
theorem dL_law_473 : decode cL_law 473 = .ok (.invokevirtual 41, 3) := by decide +kernel
theorem dL_law_476 : decode cL_law 476 = .ok (.aload_n 2, 1) := by decide +kernel
theorem dL_law_477 : decode cL_law 477 = .ok (.aload_n 0, 1) := by decide +kernel
theorem dL_law_478 : decode cL_law 478 = .ok (.iload_n 3, 1) := by decide +kernel
theorem dL_law_479 : decode cL_law 479 = .ok (.iconst 1, 1) := by decide +kernel
theorem dL_law_480 : decode cL_law 480 = .ok (.iadd, 1) := by decide +kernel
theorem dL_law_481 : decode cL_law 481 = .ok (.iaload, 1) := by decide +kernel
theorem dL_law_482 : decode cL_law 482 = .ok (.aload_n 0, 1) := by decide +kernel
theorem dL_law_483 : decode cL_law 483 = .ok (.iload_n 3, 1) := by decide +kernel
theorem dL_law_484 : decode cL_law 484 = .ok (.iconst 2, 1) := by decide +kernel
theorem dL_law_485 : decode cL_law 485 = .ok (.iadd, 1) := by decide +kernel
theorem dL_law_486 : decode cL_law 486 = .ok (.iaload, 1) := by decide +kernel
theorem dL_law_487 : decode cL_law 487 = .ok (.invokevirtual 44, 3) := by decide +kernel
theorem dL_law_490 : decode cL_law 490 = .ok (.if_icmp .eq 1254, 3) := by decide +kernel
theorem dL_law_493 : decode cL_law 493 = .ok (.iconst 0, 1) := by decide +kernel
theorem dL_law_494 : decode cL_law 494 = .ok (.ireturn, 1) := by decide +kernel
theorem dL_law_495 : decode cL_law 495 = .ok (.aload_n 1, 1) := by decide +kernel
theorem dL_law_496 : decode cL_law 496 = .ok (.aload_n 0, 1) := by decide +kernel
theorem dL_law_497 : decode cL_law 497 = .ok (.iload_n 3, 1) := by decide +kernel
theorem dL_law_498 : decode cL_law 498 = .ok (.iconst 1, 1) := by decide +kernel
theorem dL_law_499 : decode cL_law 499 = .ok (.iadd, 1) := by decide +kernel
theorem dL_law_500 : decode cL_law 500 = .ok (.iaload, 1) := by decide +kernel
theorem dL_law_501 : decode cL_law 501 = .ok (.aload_n 0, 1) := by decide +kernel
theorem dL_law_502 : decode cL_law 502 = .ok (.iload_n 3, 1) := by decide +kernel
theorem dL_law_503 : decode cL_law 503 = .ok (.iconst 2, 1) := by decide +kernel
theorem dL_law_504 : decode cL_law 504 = .ok (.iadd, 1) := by decide +kernel
theorem dL_law_505 : decode cL_law 505 = .ok (.iaload, 1) := by decide +kernel
theorem dL_law_506 : decode cL_law 506 = .ok (.aload_n 0, 1) := by decide +kernel
theorem dL_law_507 : decode cL_law 507 = .ok (.iload_n 3, 1) := by decide +kernel
theorem dL_law_508 : decode cL_law 508 = .ok (.iconst 3, 1) := by decide +kernel
theorem dL_law_509 : decode cL_law 509 = .ok (.iadd, 1) := by decide +kernel
theorem dL_law_510 : decode cL_law 510 = .ok (.iaload, 1) := by decide +kernel
theorem dL_law_511 : decode cL_law 511 = .ok (.invokevirtual 45, 3) := by decide +kernel
theorem dL_law_514 : decode cL_law 514 = .ok (.aload_n 2, 1) := by decide +kernel
theorem dL_law_515 : decode cL_law 515 = .ok (.aload_n 0, 1) := by decide +kernel
theorem dL_law_516 : decode cL_law 516 = .ok (.iload_n 3, 1) := by decide +kernel
theorem dL_law_517 : decode cL_law 517 = .ok (.iconst 1, 1) := by decide +kernel
theorem dL_law_518 : decode cL_law 518 = .ok (.iadd, 1) := by decide +kernel
theorem dL_law_519 : decode cL_law 519 = .ok (.iaload, 1) := by decide +kernel
theorem dL_law_520 : decode cL_law 520 = .ok (.aload_n 0, 1) := by decide +kernel
theorem dL_law_521 : decode cL_law 521 = .ok (.iload_n 3, 1) := by decide +kernel
theorem dL_law_522 : decode cL_law 522 = .ok (.iconst 2, 1) := by decide +kernel
theorem dL_law_523 : decode cL_law 523 = .ok (.iadd, 1) := by decide +kernel
theorem dL_law_524 : decode cL_law 524 = .ok (.iaload, 1) := by decide +kernel
theorem dL_law_525 : decode cL_law 525 = .ok (.aload_n 0, 1) := by decide +kernel
theorem dL_law_526 : decode cL_law 526 = .ok (.iload_n 3, 1) := by decide +kernel
theorem dL_law_527 : decode cL_law 527 = .ok (.iconst 3, 1) := by decide +kernel
theorem dL_law_528 : decode cL_law 528 = .ok (.iadd, 1) := by decide +kernel
theorem dL_law_529 : decode cL_law 529 = .ok (.iaload, 1) := by decide +kernel
theorem dL_law_530 : decode cL_law 530 = .ok (.invokevirtual 48, 3) := by decide +kernel
theorem dL_law_533 : decode cL_law 533 = .ok (.if_icmp .eq 1211, 3) := by decide +kernel
theorem dL_law_536 : decode cL_law 536 = .ok (.iconst 0, 1) := by decide +kernel
theorem dL_law_537 : decode cL_law 537 = .ok (.ireturn, 1) := by decide +kernel
theorem dL_law_538 : decode cL_law 538 = .ok (.aload_n 1, 1) := by decide +kernel
theorem dL_law_539 : decode cL_law 539 = .ok (.aload_n 0, 1) := by decide +kernel
theorem dL_law_540 : decode cL_law 540 = .ok (.iload_n 3, 1) := by decide +kernel
theorem dL_law_541 : decode cL_law 541 = .ok (.iconst 1, 1) := by decide +kernel
theorem dL_law_542 : decode cL_law 542 = .ok (.iadd, 1) := by decide +kernel
theorem dL_law_543 : decode cL_law 543 = .ok (.iaload, 1) := by decide +kernel
theorem dL_law_544 : decode cL_law 544 = .ok (.invokevirtual 49, 3) := by decide +kernel
theorem dL_law_547 : decode cL_law 547 = .ok (.aload_n 2, 1) := by decide +kernel
theorem dL_law_548 : decode cL_law 548 = .ok (.aload_n 0, 1) := by decide +kernel
theorem dL_law_549 : decode cL_law 549 = .ok (.iload_n 3, 1) := by decide +kernel
theorem dL_law_550 : decode cL_law 550 = .ok (.iconst 1, 1) := by decide +kernel
theorem dL_law_551 : decode cL_law 551 = .ok (.iadd, 1) := by decide +kernel
theorem dL_law_552 : decode cL_law 552 = .ok (.iaload, 1) := by decide +kernel
theorem dL_law_553 : decode cL_law 553 = .ok (.invokevirtual 52, 3) := by decide +kernel
theorem dL_law_556 : decode cL_law 556 = .ok (.if_icmp .eq 1188, 3) := by decide +kernel
theorem dL_law_559 : decode cL_law 559 = .ok (.iconst 0, 1) := by decide +kernel
theorem dL_law_560 : decode cL_law 560 = .ok (.ireturn, 1) := by decide +kernel
theorem dL_law_561 : decode cL_law 561 = .ok (.aload_n 1, 1) := by decide +kernel
theorem dL_law_562 : decode cL_law 562 = .ok (.aload_n 0, 1) := by decide +kernel
theorem dL_law_563 : decode cL_law 563 = .ok (.iload_n 3, 1) := by decide +kernel
theorem dL_law_564 : decode cL_law 564 = .ok (.iconst 1, 1) := by decide +kernel
theorem dL_law_565 : decode cL_law 565 = .ok (.iadd, 1) := by decide +kernel
theorem dL_law_566 : decode cL_law 566 = .ok (.iaload, 1) := by decide +kernel
theorem dL_law_567 : decode cL_law 567 = .ok (.invokevirtual 53, 3) := by decide +kernel
theorem dL_law_570 : decode cL_law 570 = .ok (.aload_n 2, 1) := by decide +kernel
theorem dL_law_571 : decode cL_law 571 = .ok (.aload_n 0, 1) := by decide +kernel
theorem dL_law_572 : decode cL_law 572 = .ok (.iload_n 3, 1) := by decide +kernel
theorem dL_law_573 : decode cL_law 573 = .ok (.iconst 1, 1) := by decide +kernel
theorem dL_law_574 : decode cL_law 574 = .ok (.iadd, 1) := by decide +kernel
theorem dL_law_575 : decode cL_law 575 = .ok (.iaload, 1) := by decide +kernel
theorem dL_law_576 : decode cL_law 576 = .ok (.invokevirtual 56, 3) := by decide +kernel
theorem dL_law_579 : decode cL_law 579 = .ok (.if_icmp .eq 1165, 3) := by decide +kernel
theorem dL_law_582 : decode cL_law 582 = .ok (.iconst 0, 1) := by decide +kernel
theorem dL_law_583 : decode cL_law 583 = .ok (.ireturn, 1) := by decide +kernel
theorem dL_law_584 : decode cL_law 584 = .ok (.aload_n 1, 1) := by decide +kernel
theorem dL_law_585 : decode cL_law 585 = .ok (.aload_n 0, 1) := by decide +kernel
theorem dL_law_586 : decode cL_law 586 = .ok (.iload_n 3, 1) := by decide +kernel
theorem dL_law_587 : decode cL_law 587 = .ok (.iconst 1, 1) := by decide +kernel
theorem dL_law_588 : decode cL_law 588 = .ok (.iadd, 1) := by decide +kernel
theorem dL_law_589 : decode cL_law 589 = .ok (.iaload, 1) := by decide +kernel
theorem dL_law_590 : decode cL_law 590 = .ok (.aload_n 0, 1) := by decide +kernel
theorem dL_law_591 : decode cL_law 591 = .ok (.iload_n 3, 1) := by decide +kernel
theorem dL_law_592 : decode cL_law 592 = .ok (.iconst 2, 1) := by decide +kernel
theorem dL_law_593 : decode cL_law 593 = .ok (.iadd, 1) := by decide +kernel
theorem dL_law_594 : decode cL_law 594 = .ok (.iaload, 1) := by decide +kernel
theorem dL_law_595 : decode cL_law 595 = .ok (.invokevirtual 57, 3) := by decide +kernel
theorem dL_law_598 : decode cL_law 598 = .ok (.aload_n 2, 1) := by decide +kernel
theorem dL_law_599 : decode cL_law 599 = .ok (.aload_n 0, 1) := by decide +kernel
theorem dL_law_600 : decode cL_law 600 = .ok (.iload_n 3, 1) := by decide +kernel
theorem dL_law_601 : decode cL_law 601 = .ok (.iconst 1, 1) := by decide +kernel
theorem dL_law_602 : decode cL_law 602 = .ok (.iadd, 1) := by decide +kernel
theorem dL_law_603 : decode cL_law 603 = .ok (.iaload, 1) := by decide +kernel
theorem dL_law_604 : decode cL_law 604 = .ok (.aload_n 0, 1) := by decide +kernel
theorem dL_law_605 : decode cL_law 605 = .ok (.iload_n 3, 1) := by decide +kernel
theorem dL_law_606 : decode cL_law 606 = .ok (.iconst 2, 1) := by decide +kernel
theorem dL_law_607 : decode cL_law 607 = .ok (.iadd, 1) := by decide +kernel
theorem dL_law_608 : decode cL_law 608 = .ok (.iaload, 1) := by decide +kernel
theorem dL_law_609 : decode cL_law 609 = .ok (.invokevirtual 60, 3) := by decide +kernel
theorem dL_law_612 : decode cL_law 612 = .ok (.if_icmp .eq 1132, 3) := by decide +kernel
theorem dL_law_615 : decode cL_law 615 = .ok (.iconst 0, 1) := by decide +kernel
theorem dL_law_616 : decode cL_law 616 = .ok (.ireturn, 1) := by decide +kernel
theorem dL_law_617 : decode cL_law 617 = .ok (.aload_n 1, 1) := by decide +kernel
theorem dL_law_618 : decode cL_law 618 = .ok (.aload_n 0, 1) := by decide +kernel
theorem dL_law_619 : decode cL_law 619 = .ok (.iload_n 3, 1) := by decide +kernel
theorem dL_law_620 : decode cL_law 620 = .ok (.iconst 1, 1) := by decide +kernel
theorem dL_law_621 : decode cL_law 621 = .ok (.iadd, 1) := by decide +kernel
theorem dL_law_622 : decode cL_law 622 = .ok (.iaload, 1) := by decide +kernel
theorem dL_law_623 : decode cL_law 623 = .ok (.aload_n 0, 1) := by decide +kernel
theorem dL_law_624 : decode cL_law 624 = .ok (.iload_n 3, 1) := by decide +kernel
theorem dL_law_625 : decode cL_law 625 = .ok (.iconst 2, 1) := by decide +kernel
theorem dL_law_626 : decode cL_law 626 = .ok (.iadd, 1) := by decide +kernel
theorem dL_law_627 : decode cL_law 627 = .ok (.iaload, 1) := by decide +kernel
theorem dL_law_628 : decode cL_law 628 = .ok (.invokevirtual 61, 3) := by decide +kernel
theorem dL_law_631 : decode cL_law 631 = .ok (.aload_n 2, 1) := by decide +kernel
theorem dL_law_632 : decode cL_law 632 = .ok (.aload_n 0, 1) := by decide +kernel
theorem dL_law_633 : decode cL_law 633 = .ok (.iload_n 3, 1) := by decide +kernel
theorem dL_law_634 : decode cL_law 634 = .ok (.iconst 1, 1) := by decide +kernel
theorem dL_law_635 : decode cL_law 635 = .ok (.iadd, 1) := by decide +kernel
theorem dL_law_636 : decode cL_law 636 = .ok (.iaload, 1) := by decide +kernel
theorem dL_law_637 : decode cL_law 637 = .ok (.aload_n 0, 1) := by decide +kernel
theorem dL_law_638 : decode cL_law 638 = .ok (.iload_n 3, 1) := by decide +kernel
theorem dL_law_639 : decode cL_law 639 = .ok (.iconst 2, 1) := by decide +kernel
theorem dL_law_640 : decode cL_law 640 = .ok (.iadd, 1) := by decide +kernel
theorem dL_law_641 : decode cL_law 641 = .ok (.iaload, 1) := by decide +kernel
theorem dL_law_642 : decode cL_law 642 = .ok (.invokevirtual 64, 3) := by decide +kernel
theorem dL_law_645 : decode cL_law 645 = .ok (.if_icmp .eq 1099, 3) := by decide +kernel
theorem dL_law_648 : decode cL_law 648 = .ok (.iconst 0, 1) := by decide +kernel
theorem dL_law_649 : decode cL_law 649 = .ok (.ireturn, 1) := by decide +kernel
theorem dL_law_650 : decode cL_law 650 = .ok (.aload_n 1, 1) := by decide +kernel
theorem dL_law_651 : decode cL_law 651 = .ok (.aload_n 0, 1) := by decide +kernel
theorem dL_law_652 : decode cL_law 652 = .ok (.iload_n 3, 1) := by decide +kernel
theorem dL_law_653 : decode cL_law 653 = .ok (.iconst 1, 1) := by decide +kernel
theorem dL_law_654 : decode cL_law 654 = .ok (.iadd, 1) := by decide +kernel
theorem dL_law_655 : decode cL_law 655 = .ok (.iaload, 1) := by decide +kernel
theorem dL_law_656 : decode cL_law 656 = .ok (.invokevirtual 65, 3) := by decide +kernel
theorem dL_law_659 : decode cL_law 659 = .ok (.aload_n 2, 1) := by decide +kernel
theorem dL_law_660 : decode cL_law 660 = .ok (.aload_n 0, 1) := by decide +kernel
theorem dL_law_661 : decode cL_law 661 = .ok (.iload_n 3, 1) := by decide +kernel
theorem dL_law_662 : decode cL_law 662 = .ok (.iconst 1, 1) := by decide +kernel
theorem dL_law_663 : decode cL_law 663 = .ok (.iadd, 1) := by decide +kernel
theorem dL_law_664 : decode cL_law 664 = .ok (.iaload, 1) := by decide +kernel
theorem dL_law_665 : decode cL_law 665 = .ok (.invokevirtual 68, 3) := by decide +kernel
theorem dL_law_668 : decode cL_law 668 = .ok (.if_icmp .eq 1076, 3) := by decide +kernel
theorem dL_law_671 : decode cL_law 671 = .ok (.iconst 0, 1) := by decide +kernel
theorem dL_law_672 : decode cL_law 672 = .ok (.ireturn, 1) := by decide +kernel
theorem dL_law_673 : decode cL_law 673 = .ok (.aload_n 1, 1) := by decide +kernel
theorem dL_law_674 : decode cL_law 674 = .ok (.aload_n 0, 1) := by decide +kernel
theorem dL_law_675 : decode cL_law 675 = .ok (.iload_n 3, 1) := by decide +kernel
theorem dL_law_676 : decode cL_law 676 = .ok (.iconst 1, 1) := by decide +kernel
theorem dL_law_677 : decode cL_law 677 = .ok (.iadd, 1) := by decide +kernel
theorem dL_law_678 : decode cL_law 678 = .ok (.iaload, 1) := by decide +kernel
theorem dL_law_679 : decode cL_law 679 = .ok (.aload_n 0, 1) := by decide +kernel
theorem dL_law_680 : decode cL_law 680 = .ok (.iload_n 3, 1) := by decide +kernel
theorem dL_law_681 : decode cL_law 681 = .ok (.iconst 2, 1) := by decide +kernel
theorem dL_law_682 : decode cL_law 682 = .ok (.iadd, 1) := by decide +kernel
theorem dL_law_683 : decode cL_law 683 = .ok (.iaload, 1) := by decide +kernel
theorem dL_law_684 : decode cL_law 684 = .ok (.aload_n 0, 1) := by decide +kernel
theorem dL_law_685 : decode cL_law 685 = .ok (.iload_n 3, 1) := by decide +kernel
theorem dL_law_686 : decode cL_law 686 = .ok (.iconst 3, 1) := by decide +kernel
theorem dL_law_687 : decode cL_law 687 = .ok (.iadd, 1) := by decide +kernel
theorem dL_law_688 : decode cL_law 688 = .ok (.iaload, 1) := by decide +kernel
theorem dL_law_689 : decode cL_law 689 = .ok (.invokevirtual 69, 3) := by decide +kernel
theorem dL_law_692 : decode cL_law 692 = .ok (.aload_n 2, 1) := by decide +kernel
theorem dL_law_693 : decode cL_law 693 = .ok (.aload_n 0, 1) := by decide +kernel
theorem dL_law_694 : decode cL_law 694 = .ok (.iload_n 3, 1) := by decide +kernel
theorem dL_law_695 : decode cL_law 695 = .ok (.iconst 1, 1) := by decide +kernel
theorem dL_law_696 : decode cL_law 696 = .ok (.iadd, 1) := by decide +kernel
theorem dL_law_697 : decode cL_law 697 = .ok (.iaload, 1) := by decide +kernel
theorem dL_law_698 : decode cL_law 698 = .ok (.aload_n 0, 1) := by decide +kernel
theorem dL_law_699 : decode cL_law 699 = .ok (.iload_n 3, 1) := by decide +kernel
theorem dL_law_700 : decode cL_law 700 = .ok (.iconst 2, 1) := by decide +kernel
theorem dL_law_701 : decode cL_law 701 = .ok (.iadd, 1) := by decide +kernel
theorem dL_law_702 : decode cL_law 702 = .ok (.iaload, 1) := by decide +kernel
theorem dL_law_703 : decode cL_law 703 = .ok (.aload_n 0, 1) := by decide +kernel
theorem dL_law_704 : decode cL_law 704 = .ok (.iload_n 3, 1) := by decide +kernel
theorem dL_law_705 : decode cL_law 705 = .ok (.iconst 3, 1) := by decide +kernel
theorem dL_law_706 : decode cL_law 706 = .ok (.iadd, 1) := by decide +kernel
theorem dL_law_707 : decode cL_law 707 = .ok (.iaload, 1) := by decide +kernel
theorem dL_law_708 : decode cL_law 708 = .ok (.invokevirtual 72, 3) := by decide +kernel
theorem dL_law_711 : decode cL_law 711 = .ok (.if_icmp .eq 1033, 3) := by decide +kernel
theorem dL_law_714 : decode cL_law 714 = .ok (.iconst 0, 1) := by decide +kernel
theorem dL_law_715 : decode cL_law 715 = .ok (.ireturn, 1) := by decide +kernel
theorem dL_law_716 : decode cL_law 716 = .ok (.aload_n 1, 1) := by decide +kernel
theorem dL_law_717 : decode cL_law 717 = .ok (.aload_n 0, 1) := by decide +kernel
theorem dL_law_718 : decode cL_law 718 = .ok (.iload_n 3, 1) := by decide +kernel
theorem dL_law_719 : decode cL_law 719 = .ok (.iconst 1, 1) := by decide +kernel
theorem dL_law_720 : decode cL_law 720 = .ok (.iadd, 1) := by decide +kernel
theorem dL_law_721 : decode cL_law 721 = .ok (.iaload, 1) := by decide +kernel
theorem dL_law_722 : decode cL_law 722 = .ok (.aload_n 0, 1) := by decide +kernel
theorem dL_law_723 : decode cL_law 723 = .ok (.iload_n 3, 1) := by decide +kernel
theorem dL_law_724 : decode cL_law 724 = .ok (.iconst 2, 1) := by decide +kernel
theorem dL_law_725 : decode cL_law 725 = .ok (.iadd, 1) := by decide +kernel
theorem dL_law_726 : decode cL_law 726 = .ok (.iaload, 1) := by decide +kernel
theorem dL_law_727 : decode cL_law 727 = .ok (.invokevirtual 73, 3) := by decide +kernel
theorem dL_law_730 : decode cL_law 730 = .ok (.aload_n 2, 1) := by decide +kernel
theorem dL_law_731 : decode cL_law 731 = .ok (.aload_n 0, 1) := by decide +kernel
theorem dL_law_732 : decode cL_law 732 = .ok (.iload_n 3, 1) := by decide +kernel
theorem dL_law_733 : decode cL_law 733 = .ok (.iconst 1, 1) := by decide +kernel
theorem dL_law_734 : decode cL_law 734 = .ok (.iadd, 1) := by decide +kernel
theorem dL_law_735 : decode cL_law 735 = .ok (.iaload, 1) := by decide +kernel
theorem dL_law_736 : decode cL_law 736 = .ok (.aload_n 0, 1) := by decide +kernel
theorem dL_law_737 : decode cL_law 737 = .ok (.iload_n 3, 1) := by decide +kernel
theorem dL_law_738 : decode cL_law 738 = .ok (.iconst 2, 1) := by decide +kernel
theorem dL_law_739 : decode cL_law 739 = .ok (.iadd, 1) := by decide +kernel
theorem dL_law_740 : decode cL_law 740 = .ok (.iaload, 1) := by decide +kernel
theorem dL_law_741 : decode cL_law 741 = .ok (.invokevirtual 76, 3) := by decide +kernel
theorem dL_law_744 : decode cL_law 744 = .ok (.if_icmp .eq 1000, 3) := by decide +kernel
theorem dL_law_747 : decode cL_law 747 = .ok (.iconst 0, 1) := by decide +kernel
theorem dL_law_748 : decode cL_law 748 = .ok (.ireturn, 1) := by decide +kernel
theorem dL_law_749 : decode cL_law 749 = .ok (.aload_n 1, 1) := by decide +kernel
theorem dL_law_750 : decode cL_law 750 = .ok (.aload_n 0, 1) := by decide +kernel
theorem dL_law_751 : decode cL_law 751 = .ok (.iload_n 3, 1) := by decide +kernel
theorem dL_law_752 : decode cL_law 752 = .ok (.iconst 1, 1) := by decide +kernel
theorem dL_law_753 : decode cL_law 753 = .ok (.iadd, 1) := by decide +kernel
theorem dL_law_754 : decode cL_law 754 = .ok (.iaload, 1) := by decide +kernel
theorem dL_law_755 : decode cL_law 755 = .ok (.aload_n 0, 1) := by decide +kernel
theorem dL_law_756 : decode cL_law 756 = .ok (.iload_n 3, 1) := by decide +kernel
theorem dL_law_757 : decode cL_law 757 = .ok (.iconst 2, 1) := by decide +kernel
theorem dL_law_758 : decode cL_law 758 = .ok (.iadd, 1) := by decide +kernel
theorem dL_law_759 : decode cL_law 759 = .ok (.iaload, 1) := by decide +kernel
theorem dL_law_760 : decode cL_law 760 = .ok (.invokevirtual 77, 3) := by decide +kernel
theorem dL_law_763 : decode cL_law 763 = .ok (.aload_n 2, 1) := by decide +kernel
theorem dL_law_764 : decode cL_law 764 = .ok (.aload_n 0, 1) := by decide +kernel
theorem dL_law_765 : decode cL_law 765 = .ok (.iload_n 3, 1) := by decide +kernel
theorem dL_law_766 : decode cL_law 766 = .ok (.iconst 1, 1) := by decide +kernel
theorem dL_law_767 : decode cL_law 767 = .ok (.iadd, 1) := by decide +kernel
theorem dL_law_768 : decode cL_law 768 = .ok (.iaload, 1) := by decide +kernel
theorem dL_law_769 : decode cL_law 769 = .ok (.aload_n 0, 1) := by decide +kernel
theorem dL_law_770 : decode cL_law 770 = .ok (.iload_n 3, 1) := by decide +kernel
theorem dL_law_771 : decode cL_law 771 = .ok (.iconst 2, 1) := by decide +kernel
theorem dL_law_772 : decode cL_law 772 = .ok (.iadd, 1) := by decide +kernel
theorem dL_law_773 : decode cL_law 773 = .ok (.iaload, 1) := by decide +kernel
theorem dL_law_774 : decode cL_law 774 = .ok (.invokevirtual 80, 3) := by decide +kernel
theorem dL_law_777 : decode cL_law 777 = .ok (.if_icmp .eq 967, 3) := by decide +kernel
theorem dL_law_780 : decode cL_law 780 = .ok (.iconst 0, 1) := by decide +kernel
theorem dL_law_781 : decode cL_law 781 = .ok (.ireturn, 1) := by decide +kernel
theorem dL_law_782 : decode cL_law 782 = .ok (.aload_n 1, 1) := by decide +kernel
theorem dL_law_783 : decode cL_law 783 = .ok (.aload_n 0, 1) := by decide +kernel
theorem dL_law_784 : decode cL_law 784 = .ok (.iload_n 3, 1) := by decide +kernel
theorem dL_law_785 : decode cL_law 785 = .ok (.iconst 1, 1) := by decide +kernel
theorem dL_law_786 : decode cL_law 786 = .ok (.iadd, 1) := by decide +kernel
theorem dL_law_787 : decode cL_law 787 = .ok (.iaload, 1) := by decide +kernel
theorem dL_law_788 : decode cL_law 788 = .ok (.invokevirtual 81, 3) := by decide +kernel
theorem dL_law_791 : decode cL_law 791 = .ok (.aload_n 2, 1) := by decide +kernel
theorem dL_law_792 : decode cL_law 792 = .ok (.aload_n 0, 1) := by decide +kernel
theorem dL_law_793 : decode cL_law 793 = .ok (.iload_n 3, 1) := by decide +kernel
theorem dL_law_794 : decode cL_law 794 = .ok (.iconst 1, 1) := by decide +kernel
theorem dL_law_795 : decode cL_law 795 = .ok (.iadd, 1) := by decide +kernel
theorem dL_law_796 : decode cL_law 796 = .ok (.iaload, 1) := by decide +kernel
theorem dL_law_797 : decode cL_law 797 = .ok (.invokevirtual 84, 3) := by decide +kernel
theorem dL_law_800 : decode cL_law 800 = .ok (.if_icmp .eq 944, 3) := by decide +kernel
theorem dL_law_803 : decode cL_law 803 = .ok (.iconst 0, 1) := by decide +kernel
theorem dL_law_804 : decode cL_law 804 = .ok (.ireturn, 1) := by decide +kernel
theorem dL_law_805 : decode cL_law 805 = .ok (.aload_n 1, 1) := by decide +kernel
theorem dL_law_806 : decode cL_law 806 = .ok (.aload_n 0, 1) := by decide +kernel
theorem dL_law_807 : decode cL_law 807 = .ok (.iload_n 3, 1) := by decide +kernel
theorem dL_law_808 : decode cL_law 808 = .ok (.iconst 1, 1) := by decide +kernel
theorem dL_law_809 : decode cL_law 809 = .ok (.iadd, 1) := by decide +kernel
theorem dL_law_810 : decode cL_law 810 = .ok (.iaload, 1) := by decide +kernel
theorem dL_law_811 : decode cL_law 811 = .ok (.aload_n 0, 1) := by decide +kernel
theorem dL_law_812 : decode cL_law 812 = .ok (.iload_n 3, 1) := by decide +kernel
theorem dL_law_813 : decode cL_law 813 = .ok (.iconst 2, 1) := by decide +kernel
theorem dL_law_814 : decode cL_law 814 = .ok (.iadd, 1) := by decide +kernel
theorem dL_law_815 : decode cL_law 815 = .ok (.iaload, 1) := by decide +kernel
theorem dL_law_816 : decode cL_law 816 = .ok (.invokevirtual 85, 3) := by decide +kernel
theorem dL_law_819 : decode cL_law 819 = .ok (.aload_n 2, 1) := by decide +kernel
theorem dL_law_820 : decode cL_law 820 = .ok (.aload_n 0, 1) := by decide +kernel
theorem dL_law_821 : decode cL_law 821 = .ok (.iload_n 3, 1) := by decide +kernel
theorem dL_law_822 : decode cL_law 822 = .ok (.iconst 1, 1) := by decide +kernel
theorem dL_law_823 : decode cL_law 823 = .ok (.iadd, 1) := by decide +kernel
theorem dL_law_824 : decode cL_law 824 = .ok (.iaload, 1) := by decide +kernel
theorem dL_law_825 : decode cL_law 825 = .ok (.aload_n 0, 1) := by decide +kernel
theorem dL_law_826 : decode cL_law 826 = .ok (.iload_n 3, 1) := by decide +kernel
theorem dL_law_827 : decode cL_law 827 = .ok (.iconst 2, 1) := by decide +kernel
theorem dL_law_828 : decode cL_law 828 = .ok (.iadd, 1) := by decide +kernel
theorem dL_law_829 : decode cL_law 829 = .ok (.iaload, 1) := by decide +kernel
theorem dL_law_830 : decode cL_law 830 = .ok (.invokevirtual 88, 3) := by decide +kernel
theorem dL_law_833 : decode cL_law 833 = .ok (.if_icmp .eq 911, 3) := by decide +kernel
theorem dL_law_836 : decode cL_law 836 = .ok (.iconst 0, 1) := by decide +kernel
theorem dL_law_837 : decode cL_law 837 = .ok (.ireturn, 1) := by decide +kernel
theorem dL_law_838 : decode cL_law 838 = .ok (.aload_n 1, 1) := by decide +kernel
theorem dL_law_839 : decode cL_law 839 = .ok (.aload_n 0, 1) := by decide +kernel
theorem dL_law_840 : decode cL_law 840 = .ok (.iload_n 3, 1) := by decide +kernel
theorem dL_law_841 : decode cL_law 841 = .ok (.iconst 1, 1) := by decide +kernel
theorem dL_law_842 : decode cL_law 842 = .ok (.iadd, 1) := by decide +kernel
theorem dL_law_843 : decode cL_law 843 = .ok (.iaload, 1) := by decide +kernel
theorem dL_law_844 : decode cL_law 844 = .ok (.aload_n 0, 1) := by decide +kernel
theorem dL_law_845 : decode cL_law 845 = .ok (.iload_n 3, 1) := by decide +kernel
theorem dL_law_846 : decode cL_law 846 = .ok (.iconst 2, 1) := by decide +kernel
theorem dL_law_847 : decode cL_law 847 = .ok (.iadd, 1) := by decide +kernel
theorem dL_law_848 : decode cL_law 848 = .ok (.iaload, 1) := by decide +kernel
theorem dL_law_849 : decode cL_law 849 = .ok (.invokevirtual 89, 3) := by decide +kernel
theorem dL_law_852 : decode cL_law 852 = .ok (.aload_n 2, 1) := by decide +kernel
theorem dL_law_853 : decode cL_law 853 = .ok (.aload_n 0, 1) := by decide +kernel
theorem dL_law_854 : decode cL_law 854 = .ok (.iload_n 3, 1) := by decide +kernel
theorem dL_law_855 : decode cL_law 855 = .ok (.iconst 1, 1) := by decide +kernel
theorem dL_law_856 : decode cL_law 856 = .ok (.iadd, 1) := by decide +kernel
theorem dL_law_857 : decode cL_law 857 = .ok (.iaload, 1) := by decide +kernel
theorem dL_law_858 : decode cL_law 858 = .ok (.aload_n 0, 1) := by decide +kernel
theorem dL_law_859 : decode cL_law 859 = .ok (.iload_n 3, 1) := by decide +kernel
theorem dL_law_860 : decode cL_law 860 = .ok (.iconst 2, 1) := by decide +kernel
theorem dL_law_861 : decode cL_law 861 = .ok (.iadd, 1) := by decide +kernel
theorem dL_law_862 : decode cL_law 862 = .ok (.iaload, 1) := by decide +kernel
theorem dL_law_863 : decode cL_law 863 = .ok (.invokevirtual 92, 3) := by decide +kernel
theorem dL_law_866 : decode cL_law 866 = .ok (.if_icmp .eq 878, 3) := by decide +kernel
theorem dL_law_869 : decode cL_law 869 = .ok (.iconst 0, 1) := by decide +kernel
theorem dL_law_870 : decode cL_law 870 = .ok (.ireturn, 1) := by decide +kernel
theorem dL_law_871 : decode cL_law 871 = .ok (.aload_n 1, 1) := by decide +kernel
theorem dL_law_872 : decode cL_law 872 = .ok (.aload_n 0, 1) := by decide +kernel
theorem dL_law_873 : decode cL_law 873 = .ok (.iload_n 3, 1) := by decide +kernel
theorem dL_law_874 : decode cL_law 874 = .ok (.iconst 1, 1) := by decide +kernel
theorem dL_law_875 : decode cL_law 875 = .ok (.iadd, 1) := by decide +kernel
theorem dL_law_876 : decode cL_law 876 = .ok (.iaload, 1) := by decide +kernel
theorem dL_law_877 : decode cL_law 877 = .ok (.aload_n 0, 1) := by decide +kernel
theorem dL_law_878 : decode cL_law 878 = .ok (.iload_n 3, 1) := by decide +kernel
theorem dL_law_879 : decode cL_law 879 = .ok (.iconst 2, 1) := by decide +kernel
theorem dL_law_880 : decode cL_law 880 = .ok (.iadd, 1) := by decide +kernel
theorem dL_law_881 : decode cL_law 881 = .ok (.iaload, 1) := by decide +kernel
theorem dL_law_882 : decode cL_law 882 = .ok (.invokevirtual 93, 3) := by decide +kernel
theorem dL_law_885 : decode cL_law 885 = .ok (.aload_n 2, 1) := by decide +kernel
theorem dL_law_886 : decode cL_law 886 = .ok (.aload_n 0, 1) := by decide +kernel
theorem dL_law_887 : decode cL_law 887 = .ok (.iload_n 3, 1) := by decide +kernel
theorem dL_law_888 : decode cL_law 888 = .ok (.iconst 1, 1) := by decide +kernel
theorem dL_law_889 : decode cL_law 889 = .ok (.iadd, 1) := by decide +kernel
theorem dL_law_890 : decode cL_law 890 = .ok (.iaload, 1) := by decide +kernel
theorem dL_law_891 : decode cL_law 891 = .ok (.aload_n 0, 1) := by decide +kernel
theorem dL_law_892 : decode cL_law 892 = .ok (.iload_n 3, 1) := by decide +kernel
theorem dL_law_893 : decode cL_law 893 = .ok (.iconst 2, 1) := by decide +kernel
theorem dL_law_894 : decode cL_law 894 = .ok (.iadd, 1) := by decide +kernel
theorem dL_law_895 : decode cL_law 895 = .ok (.iaload, 1) := by decide +kernel
theorem dL_law_896 : decode cL_law 896 = .ok (.invokevirtual 96, 3) := by decide +kernel
theorem dL_law_899 : decode cL_law 899 = .ok (.if_icmp .eq 845, 3) := by decide +kernel
theorem dL_law_902 : decode cL_law 902 = .ok (.iconst 0, 1) := by decide +kernel
theorem dL_law_903 : decode cL_law 903 = .ok (.ireturn, 1) := by decide +kernel
theorem dL_law_904 : decode cL_law 904 = .ok (.aload_n 1, 1) := by decide +kernel
theorem dL_law_905 : decode cL_law 905 = .ok (.aload_n 0, 1) := by decide +kernel
theorem dL_law_906 : decode cL_law 906 = .ok (.iload_n 3, 1) := by decide +kernel
theorem dL_law_907 : decode cL_law 907 = .ok (.iconst 1, 1) := by decide +kernel
theorem dL_law_908 : decode cL_law 908 = .ok (.iadd, 1) := by decide +kernel
theorem dL_law_909 : decode cL_law 909 = .ok (.iaload, 1) := by decide +kernel
theorem dL_law_910 : decode cL_law 910 = .ok (.aload_n 0, 1) := by decide +kernel
theorem dL_law_911 : decode cL_law 911 = .ok (.iload_n 3, 1) := by decide +kernel
theorem dL_law_912 : decode cL_law 912 = .ok (.iconst 2, 1) := by decide +kernel
theorem dL_law_913 : decode cL_law 913 = .ok (.iadd, 1) := by decide +kernel
theorem dL_law_914 : decode cL_law 914 = .ok (.iaload, 1) := by decide +kernel
theorem dL_law_915 : decode cL_law 915 = .ok (.invokevirtual 97, 3) := by decide +kernel
theorem dL_law_918 : decode cL_law 918 = .ok (.aload_n 2, 1) := by decide +kernel
theorem dL_law_919 : decode cL_law 919 = .ok (.aload_n 0, 1) := by decide +kernel
theorem dL_law_920 : decode cL_law 920 = .ok (.iload_n 3, 1) := by decide +kernel
theorem dL_law_921 : decode cL_law 921 = .ok (.iconst 1, 1) := by decide +kernel
theorem dL_law_922 : decode cL_law 922 = .ok (.iadd, 1) := by decide +kernel
theorem dL_law_923 : decode cL_law 923 = .ok (.iaload, 1) := by decide +kernel
theorem dL_law_924 : decode cL_law 924 = .ok (.aload_n 0, 1) := by decide +kernel
theorem dL_law_925 : decode cL_law 925 = .ok (.iload_n 3, 1) := by decide +kernel
theorem dL_law_926 : decode cL_law 926 = .ok (.iconst 2, 1) := by decide +kernel
theorem dL_law_927 : decode cL_law 927 = .ok (.iadd, 1) := by decide +kernel
theorem dL_law_928 : decode cL_law 928 = .ok (.iaload, 1) := by decide +kernel
theorem dL_law_929 : decode cL_law 929 = .ok (.invokevirtual 100, 3) := by decide +kernel
theorem dL_law_932 : decode cL_law 932 = .ok (.if_icmp .eq 812, 3) := by decide +kernel
theorem dL_law_935 : decode cL_law 935 = .ok (.iconst 0, 1) := by decide +kernel
theorem dL_law_936 : decode cL_law 936 = .ok (.ireturn, 1) := by decide +kernel
theorem dL_law_937 : decode cL_law 937 = .ok (.aload_n 1, 1) := by decide +kernel
theorem dL_law_938 : decode cL_law 938 = .ok (.aload_n 0, 1) := by decide +kernel
theorem dL_law_939 : decode cL_law 939 = .ok (.iload_n 3, 1) := by decide +kernel
theorem dL_law_940 : decode cL_law 940 = .ok (.iconst 1, 1) := by decide +kernel
theorem dL_law_941 : decode cL_law 941 = .ok (.iadd, 1) := by decide +kernel
theorem dL_law_942 : decode cL_law 942 = .ok (.iaload, 1) := by decide +kernel
theorem dL_law_943 : decode cL_law 943 = .ok (.aload_n 0, 1) := by decide +kernel
theorem dL_law_944 : decode cL_law 944 = .ok (.iload_n 3, 1) := by decide +kernel
theorem dL_law_945 : decode cL_law 945 = .ok (.iconst 2, 1) := by decide +kernel
theorem dL_law_946 : decode cL_law 946 = .ok (.iadd, 1) := by decide +kernel
theorem dL_law_947 : decode cL_law 947 = .ok (.iaload, 1) := by decide +kernel
theorem dL_law_948 : decode cL_law 948 = .ok (.invokevirtual 101, 3) := by decide +kernel
theorem dL_law_951 : decode cL_law 951 = .ok (.aload_n 2, 1) := by decide +kernel
theorem dL_law_952 : decode cL_law 952 = .ok (.aload_n 0, 1) := by decide +kernel
theorem dL_law_953 : decode cL_law 953 = .ok (.iload_n 3, 1) := by decide +kernel
theorem dL_law_954 : decode cL_law 954 = .ok (.iconst 1, 1) := by decide +kernel
theorem dL_law_955 : decode cL_law 955 = .ok (.iadd, 1) := by decide +kernel
theorem dL_law_956 : decode cL_law 956 = .ok (.iaload, 1) := by decide +kernel
theorem dL_law_957 : decode cL_law 957 = .ok (.aload_n 0, 1) := by decide +kernel
theorem dL_law_958 : decode cL_law 958 = .ok (.iload_n 3, 1) := by decide +kernel
theorem dL_law_959 : decode cL_law 959 = .ok (.iconst 2, 1) := by decide +kernel
theorem dL_law_960 : decode cL_law 960 = .ok (.iadd, 1) := by decide +kernel
theorem dL_law_961 : decode cL_law 961 = .ok (.iaload, 1) := by decide +kernel
theorem dL_law_962 : decode cL_law 962 = .ok (.invokevirtual 104, 3) := by decide +kernel
theorem dL_law_965 : decode cL_law 965 = .ok (.if_icmp .eq 779, 3) := by decide +kernel
theorem dL_law_968 : decode cL_law 968 = .ok (.iconst 0, 1) := by decide +kernel
theorem dL_law_969 : decode cL_law 969 = .ok (.ireturn, 1) := by decide +kernel
theorem dL_law_970 : decode cL_law 970 = .ok (.aload_n 1, 1) := by decide +kernel
theorem dL_law_971 : decode cL_law 971 = .ok (.aload_n 0, 1) := by decide +kernel
theorem dL_law_972 : decode cL_law 972 = .ok (.iload_n 3, 1) := by decide +kernel
theorem dL_law_973 : decode cL_law 973 = .ok (.iconst 1, 1) := by decide +kernel
theorem dL_law_974 : decode cL_law 974 = .ok (.iadd, 1) := by decide +kernel
theorem dL_law_975 : decode cL_law 975 = .ok (.iaload, 1) := by decide +kernel
theorem dL_law_976 : decode cL_law 976 = .ok (.aload_n 0, 1) := by decide +kernel
theorem dL_law_977 : decode cL_law 977 = .ok (.iload_n 3, 1) := by decide +kernel
theorem dL_law_978 : decode cL_law 978 = .ok (.iconst 2, 1) := by decide +kernel
theorem dL_law_979 : decode cL_law 979 = .ok (.iadd, 1) := by decide +kernel
theorem dL_law_980 : decode cL_law 980 = .ok (.iaload, 1) := by decide +kernel
theorem dL_law_981 : decode cL_law 981 = .ok (.aload_n 0, 1) := by decide +kernel
theorem dL_law_982 : decode cL_law 982 = .ok (.iload_n 3, 1) := by decide +kernel
theorem dL_law_983 : decode cL_law 983 = .ok (.iconst 3, 1) := by decide +kernel
theorem dL_law_984 : decode cL_law 984 = .ok (.iadd, 1) := by decide +kernel
theorem dL_law_985 : decode cL_law 985 = .ok (.iaload, 1) := by decide +kernel
theorem dL_law_986 : decode cL_law 986 = .ok (.aload_n 0, 1) := by decide +kernel
theorem dL_law_987 : decode cL_law 987 = .ok (.iload_n 3, 1) := by decide +kernel
theorem dL_law_988 : decode cL_law 988 = .ok (.iconst 4, 1) := by decide +kernel
theorem dL_law_989 : decode cL_law 989 = .ok (.iadd, 1) := by decide +kernel
theorem dL_law_990 : decode cL_law 990 = .ok (.iaload, 1) := by decide +kernel
theorem dL_law_991 : decode cL_law 991 = .ok (.invokevirtual 105, 3) := by decide +kernel
theorem dL_law_994 : decode cL_law 994 = .ok (.aload_n 2, 1) := by decide +kernel
theorem dL_law_995 : decode cL_law 995 = .ok (.aload_n 0, 1) := by decide +kernel
theorem dL_law_996 : decode cL_law 996 = .ok (.iload_n 3, 1) := by decide +kernel
theorem dL_law_997 : decode cL_law 997 = .ok (.iconst 1, 1) := by decide +kernel
theorem dL_law_998 : decode cL_law 998 = .ok (.iadd, 1) := by decide +kernel
theorem dL_law_999 : decode cL_law 999 = .ok (.iaload, 1) := by decide +kernel
theorem dL_law_1000 : decode cL_law 1000 = .ok (.aload_n 0, 1) := by decide +kernel
theorem dL_law_1001 : decode cL_law 1001 = .ok (.iload_n 3, 1) := by decide +kernel
theorem dL_law_1002 : decode cL_law 1002 = .ok (.iconst 2, 1) := by decide +kernel
theorem dL_law_1003 : decode cL_law 1003 = .ok (.iadd, 1) := by decide +kernel
theorem dL_law_1004 : decode cL_law 1004 = .ok (.iaload, 1) := by decide +kernel
theorem dL_law_1005 : decode cL_law 1005 = .ok (.aload_n 0, 1) := by decide +kernel
theorem dL_law_1006 : decode cL_law 1006 = .ok (.iload_n 3, 1) := by decide +kernel
theorem dL_law_1007 : decode cL_law 1007 = .ok (.iconst 3, 1) := by decide +kernel
theorem dL_law_1008 : decode cL_law 1008 = .ok (.iadd, 1) := by decide +kernel
theorem dL_law_1009 : decode cL_law 1009 = .ok (.iaload, 1) := by decide +kernel
theorem dL_law_1010 : decode cL_law 1010 = .ok (.aload_n 0, 1) := by decide +kernel
theorem dL_law_1011 : decode cL_law 1011 = .ok (.iload_n 3, 1) := by decide +kernel
theorem dL_law_1012 : decode cL_law 1012 = .ok (.iconst 4, 1) := by decide +kernel
theorem dL_law_1013 : decode cL_law 1013 = .ok (.iadd, 1) := by decide +kernel
theorem dL_law_1014 : decode cL_law 1014 = .ok (.iaload, 1) := by decide +kernel
theorem dL_law_1015 : decode cL_law 1015 = .ok (.invokevirtual 109, 3) := by decide +kernel
theorem dL_law_1018 : decode cL_law 1018 = .ok (.if_icmp .eq 726, 3) := by decide +kernel
theorem dL_law_1021 : decode cL_law 1021 = .ok (.iconst 0, 1) := by decide +kernel
theorem dL_law_1022 : decode cL_law 1022 = .ok (.ireturn, 1) := by decide +kernel
theorem dL_law_1023 : decode cL_law 1023 = .ok (.aload_n 1, 1) := by decide +kernel
theorem dL_law_1024 : decode cL_law 1024 = .ok (.aload_n 0, 1) := by decide +kernel
theorem dL_law_1025 : decode cL_law 1025 = .ok (.iload_n 3, 1) := by decide +kernel
theorem dL_law_1026 : decode cL_law 1026 = .ok (.iconst 1, 1) := by decide +kernel
theorem dL_law_1027 : decode cL_law 1027 = .ok (.iadd, 1) := by decide +kernel
theorem dL_law_1028 : decode cL_law 1028 = .ok (.iaload, 1) := by decide +kernel
theorem dL_law_1029 : decode cL_law 1029 = .ok (.aload_n 0, 1) := by decide +kernel
theorem dL_law_1030 : decode cL_law 1030 = .ok (.iload_n 3, 1) := by decide +kernel
theorem dL_law_1031 : decode cL_law 1031 = .ok (.iconst 2, 1) := by decide +kernel
theorem dL_law_1032 : decode cL_law 1032 = .ok (.iadd, 1) := by decide +kernel
theorem dL_law_1033 : decode cL_law 1033 = .ok (.iaload, 1) := by decide +kernel
theorem dL_law_1034 : decode cL_law 1034 = .ok (.invokevirtual 110, 3) := by decide +kernel
theorem dL_law_1037 : decode cL_law 1037 = .ok (.aload_n 2, 1) := by decide +kernel
theorem dL_law_1038 : decode cL_law 1038 = .ok (.aload_n 0, 1) := by decide +kernel
theorem dL_law_1039 : decode cL_law 1039 = .ok (.iload_n 3, 1) := by decide +kernel
theorem dL_law_1040 : decode cL_law 1040 = .ok (.iconst 1, 1) := by decide +kernel
theorem dL_law_1041 : decode cL_law 1041 = .ok (.iadd, 1) := by decide +kernel
theorem dL_law_1042 : decode cL_law 1042 = .ok (.iaload, 1) := by decide +kernel
theorem dL_law_1043 : decode cL_law 1043 = .ok (.aload_n 0, 1) := by decide +kernel
theorem dL_law_1044 : decode cL_law 1044 = .ok (.iload_n 3, 1) := by decide +kernel
theorem dL_law_1045 : decode cL_law 1045 = .ok (.iconst 2, 1) := by decide +kernel
theorem dL_law_1046 : decode cL_law 1046 = .ok (.iadd, 1) := by decide +kernel
theorem dL_law_1047 : decode cL_law 1047 = .ok (.iaload, 1) := by decide +kernel
theorem dL_law_1048 : decode cL_law 1048 = .ok (.invokevirtual 113, 3) := by decide +kernel
theorem dL_law_1051 : decode cL_law 1051 = .ok (.if_icmp .eq 693, 3) := by decide +kernel
theorem dL_law_1054 : decode cL_law 1054 = .ok (.iconst 0, 1) := by decide +kernel
theorem dL_law_1055 : decode cL_law 1055 = .ok (.ireturn, 1) := by decide +kernel
theorem dL_law_1056 : decode cL_law 1056 = .ok (.aload_n 1, 1) := by decide +kernel
theorem dL_law_1057 : decode cL_law 1057 = .ok (.invokevirtual 114, 3) := by decide +kernel
theorem dL_law_1060 : decode cL_law 1060 = .ok (.aload_n 2, 1) := by decide +kernel
theorem dL_law_1061 : decode cL_law 1061 = .ok (.invokevirtual 118, 3) := by decide +kernel
theorem dL_law_1064 : decode cL_law 1064 = .ok (.if_icmp .eq 680, 3) := by decide +kernel
theorem dL_law_1067 : decode cL_law 1067 = .ok (.iconst 0, 1) := by decide +kernel
theorem dL_law_1068 : decode cL_law 1068 = .ok (.ireturn, 1) := by decide +kernel
theorem dL_law_1069 : decode cL_law 1069 = .ok (.aload_n 1, 1) := by decide +kernel
theorem dL_law_1070 : decode cL_law 1070 = .ok (.aload_n 0, 1) := by decide +kernel
theorem dL_law_1071 : decode cL_law 1071 = .ok (.iload_n 3, 1) := by decide +kernel
theorem dL_law_1072 : decode cL_law 1072 = .ok (.iconst 1, 1) := by decide +kernel
theorem dL_law_1073 : decode cL_law 1073 = .ok (.iadd, 1) := by decide +kernel
theorem dL_law_1074 : decode cL_law 1074 = .ok (.iaload, 1) := by decide +kernel
theorem dL_law_1075 : decode cL_law 1075 = .ok (.aload_n 0, 1) := by decide +kernel
theorem dL_law_1076 : decode cL_law 1076 = .ok (.iload_n 3, 1) := by decide +kernel
theorem dL_law_1077 : decode cL_law 1077 = .ok (.iconst 2, 1) := by decide +kernel
theorem dL_law_1078 : decode cL_law 1078 = .ok (.iadd, 1) := by decide +kernel
theorem dL_law_1079 : decode cL_law 1079 = .ok (.iaload, 1) := by decide +kernel
theorem dL_law_1080 : decode cL_law 1080 = .ok (.invokevirtual 119, 3) := by decide +kernel
theorem dL_law_1083 : decode cL_law 1083 = .ok (.aload_n 2, 1) := by decide +kernel
theorem dL_law_1084 : decode cL_law 1084 = .ok (.aload_n 0, 1) := by decide +kernel
theorem dL_law_1085 : decode cL_law 1085 = .ok (.iload_n 3, 1) := by decide +kernel
theorem dL_law_1086 : decode cL_law 1086 = .ok (.iconst 1, 1) := by decide +kernel
theorem dL_law_1087 : decode cL_law 1087 = .ok (.iadd, 1) := by decide +kernel
theorem dL_law_1088 : decode cL_law 1088 = .ok (.iaload, 1) := by decide +kernel
theorem dL_law_1089 : decode cL_law 1089 = .ok (.aload_n 0, 1) := by decide +kernel
theorem dL_law_1090 : decode cL_law 1090 = .ok (.iload_n 3, 1) := by decide +kernel
theorem dL_law_1091 : decode cL_law 1091 = .ok (.iconst 2, 1) := by decide +kernel
theorem dL_law_1092 : decode cL_law 1092 = .ok (.iadd, 1) := by decide +kernel
theorem dL_law_1093 : decode cL_law 1093 = .ok (.iaload, 1) := by decide +kernel
theorem dL_law_1094 : decode cL_law 1094 = .ok (.invokevirtual 122, 3) := by decide +kernel
theorem dL_law_1097 : decode cL_law 1097 = .ok (.if_icmp .eq 647, 3) := by decide +kernel
theorem dL_law_1100 : decode cL_law 1100 = .ok (.iconst 0, 1) := by decide +kernel
theorem dL_law_1101 : decode cL_law 1101 = .ok (.ireturn, 1) := by decide +kernel
theorem dL_law_1102 : decode cL_law 1102 = .ok (.aload_n 1, 1) := by decide +kernel
theorem dL_law_1103 : decode cL_law 1103 = .ok (.aload_n 0, 1) := by decide +kernel
theorem dL_law_1104 : decode cL_law 1104 = .ok (.iload_n 3, 1) := by decide +kernel
theorem dL_law_1105 : decode cL_law 1105 = .ok (.iconst 1, 1) := by decide +kernel
theorem dL_law_1106 : decode cL_law 1106 = .ok (.iadd, 1) := by decide +kernel
theorem dL_law_1107 : decode cL_law 1107 = .ok (.iaload, 1) := by decide +kernel
theorem dL_law_1108 : decode cL_law 1108 = .ok (.aload_n 0, 1) := by decide +kernel
theorem dL_law_1109 : decode cL_law 1109 = .ok (.iload_n 3, 1) := by decide +kernel
theorem dL_law_1110 : decode cL_law 1110 = .ok (.iconst 2, 1) := by decide +kernel
theorem dL_law_1111 : decode cL_law 1111 = .ok (.iadd, 1) := by decide +kernel
theorem dL_law_1112 : decode cL_law 1112 = .ok (.iaload, 1) := by decide +kernel
theorem dL_law_1113 : decode cL_law 1113 = .ok (.invokevirtual 123, 3) := by decide +kernel
theorem dL_law_1116 : decode cL_law 1116 = .ok (.aload_n 2, 1) := by decide +kernel
theorem dL_law_1117 : decode cL_law 1117 = .ok (.aload_n 0, 1) := by decide +kernel
theorem dL_law_1118 : decode cL_law 1118 = .ok (.iload_n 3, 1) := by decide +kernel
theorem dL_law_1119 : decode cL_law 1119 = .ok (.iconst 1, 1) := by decide +kernel
theorem dL_law_1120 : decode cL_law 1120 = .ok (.iadd, 1) := by decide +kernel
theorem dL_law_1121 : decode cL_law 1121 = .ok (.iaload, 1) := by decide +kernel
theorem dL_law_1122 : decode cL_law 1122 = .ok (.aload_n 0, 1) := by decide +kernel
theorem dL_law_1123 : decode cL_law 1123 = .ok (.iload_n 3, 1) := by decide +kernel
theorem dL_law_1124 : decode cL_law 1124 = .ok (.iconst 2, 1) := by decide +kernel
theorem dL_law_1125 : decode cL_law 1125 = .ok (.iadd, 1) := by decide +kernel
theorem dL_law_1126 : decode cL_law 1126 = .ok (.iaload, 1) := by decide +kernel
theorem dL_law_1127 : decode cL_law 1127 = .ok (.invokevirtual 126, 3) := by decide +kernel
theorem dL_law_1130 : decode cL_law 1130 = .ok (.if_icmp .eq 614, 3) := by decide +kernel
theorem dL_law_1133 : decode cL_law 1133 = .ok (.iconst 0, 1) := by decide +kernel
theorem dL_law_1134 : decode cL_law 1134 = .ok (.ireturn, 1) := by decide +kernel
theorem dL_law_1135 : decode cL_law 1135 = .ok (.aload_n 1, 1) := by decide +kernel
theorem dL_law_1136 : decode cL_law 1136 = .ok (.aload_n 0, 1) := by decide +kernel
theorem dL_law_1137 : decode cL_law 1137 = .ok (.iload_n 3, 1) := by decide +kernel
theorem dL_law_1138 : decode cL_law 1138 = .ok (.iconst 1, 1) := by decide +kernel
theorem dL_law_1139 : decode cL_law 1139 = .ok (.iadd, 1) := by decide +kernel
theorem dL_law_1140 : decode cL_law 1140 = .ok (.iaload, 1) := by decide +kernel
theorem dL_law_1141 : decode cL_law 1141 = .ok (.invokevirtual 127, 3) := by decide +kernel
theorem dL_law_1144 : decode cL_law 1144 = .ok (.aload_n 2, 1) := by decide +kernel
theorem dL_law_1145 : decode cL_law 1145 = .ok (.aload_n 0, 1) := by decide +kernel
theorem dL_law_1146 : decode cL_law 1146 = .ok (.iload_n 3, 1) := by decide +kernel
theorem dL_law_1147 : decode cL_law 1147 = .ok (.iconst 1, 1) := by decide +kernel
theorem dL_law_1148 : decode cL_law 1148 = .ok (.iadd, 1) := by decide +kernel
theorem dL_law_1149 : decode cL_law 1149 = .ok (.iaload, 1) := by decide +kernel
theorem dL_law_1150 : decode cL_law 1150 = .ok (.invokevirtual 130, 3) := by decide +kernel
theorem dL_law_1153 : decode cL_law 1153 = .ok (.if_icmp .eq 591, 3) := by decide +kernel
theorem dL_law_1156 : decode cL_law 1156 = .ok (.iconst 0, 1) := by decide +kernel
theorem dL_law_1157 : decode cL_law 1157 = .ok (.ireturn, 1) := by decide +kernel
theorem dL_law_1158 : decode cL_law 1158 = .ok (.aload_n 1, 1) := by decide +kernel
theorem dL_law_1159 : decode cL_law 1159 = .ok (.aload_n 0, 1) := by decide +kernel
theorem dL_law_1160 : decode cL_law 1160 = .ok (.iload_n 3, 1) := by decide +kernel
theorem dL_law_1161 : decode cL_law 1161 = .ok (.iconst 1, 1) := by decide +kernel
theorem dL_law_1162 : decode cL_law 1162 = .ok (.iadd, 1) := by decide +kernel
theorem dL_law_1163 : decode cL_law 1163 = .ok (.iaload, 1) := by decide +kernel
theorem dL_law_1164 : decode cL_law 1164 = .ok (.aload_n 0, 1) := by decide +kernel
theorem dL_law_1165 : decode cL_law 1165 = .ok (.iload_n 3, 1) := by decide +kernel
theorem dL_law_1166 : decode cL_law 1166 = .ok (.iconst 2, 1) := by decide +kernel
theorem dL_law_1167 : decode cL_law 1167 = .ok (.iadd, 1) := by decide +kernel
theorem dL_law_1168 : decode cL_law 1168 = .ok (.iaload, 1) := by decide +kernel
theorem dL_law_1169 : decode cL_law 1169 = .ok (.invokevirtual 131, 3) := by decide +kernel
theorem dL_law_1172 : decode cL_law 1172 = .ok (.aload_n 2, 1) := by decide +kernel
theorem dL_law_1173 : decode cL_law 1173 = .ok (.aload_n 0, 1) := by decide +kernel
theorem dL_law_1174 : decode cL_law 1174 = .ok (.iload_n 3, 1) := by decide +kernel
theorem dL_law_1175 : decode cL_law 1175 = .ok (.iconst 1, 1) := by decide +kernel
theorem dL_law_1176 : decode cL_law 1176 = .ok (.iadd, 1) := by decide +kernel
theorem dL_law_1177 : decode cL_law 1177 = .ok (.iaload, 1) := by decide +kernel
theorem dL_law_1178 : decode cL_law 1178 = .ok (.aload_n 0, 1) := by decide +kernel
theorem dL_law_1179 : decode cL_law 1179 = .ok (.iload_n 3, 1) := by decide +kernel
theorem dL_law_1180 : decode cL_law 1180 = .ok (.iconst 2, 1) := by decide +kernel
theorem dL_law_1181 : decode cL_law 1181 = .ok (.iadd, 1) := by decide +kernel
theorem dL_law_1182 : decode cL_law 1182 = .ok (.iaload, 1) := by decide +kernel
theorem dL_law_1183 : decode cL_law 1183 = .ok (.invokevirtual 134, 3) := by decide +kernel
theorem dL_law_1186 : decode cL_law 1186 = .ok (.if_icmp .eq 558, 3) := by decide +kernel
theorem dL_law_1189 : decode cL_law 1189 = .ok (.iconst 0, 1) := by decide +kernel
theorem dL_law_1190 : decode cL_law 1190 = .ok (.ireturn, 1) := by decide +kernel
theorem dL_law_1191 : decode cL_law 1191 = .ok (.aload_n 1, 1) := by decide +kernel
theorem dL_law_1192 : decode cL_law 1192 = .ok (.aload_n 0, 1) := by decide +kernel
theorem dL_law_1193 : decode cL_law 1193 = .ok (.iload_n 3, 1) := by decide +kernel
theorem dL_law_1194 : decode cL_law 1194 = .ok (.iconst 1, 1) := by decide +kernel
theorem dL_law_1195 : decode cL_law 1195 = .ok (.iadd, 1) := by decide +kernel
theorem dL_law_1196 : decode cL_law 1196 = .ok (.iaload, 1) := by decide +kernel
theorem dL_law_1197 : decode cL_law 1197 = .ok (.aload_n 0, 1) := by decide +kernel
theorem dL_law_1198 : decode cL_law 1198 = .ok (.iload_n 3, 1) := by decide +kernel
theorem dL_law_1199 : decode cL_law 1199 = .ok (.iconst 2, 1) := by decide +kernel
theorem dL_law_1200 : decode cL_law 1200 = .ok (.iadd, 1) := by decide +kernel
theorem dL_law_1201 : decode cL_law 1201 = .ok (.iaload, 1) := by decide +kernel
theorem dL_law_1202 : decode cL_law 1202 = .ok (.aload_n 0, 1) := by decide +kernel
theorem dL_law_1203 : decode cL_law 1203 = .ok (.iload_n 3, 1) := by decide +kernel
theorem dL_law_1204 : decode cL_law 1204 = .ok (.iconst 3, 1) := by decide +kernel
theorem dL_law_1205 : decode cL_law 1205 = .ok (.iadd, 1) := by decide +kernel
theorem dL_law_1206 : decode cL_law 1206 = .ok (.iaload, 1) := by decide +kernel
theorem dL_law_1207 : decode cL_law 1207 = .ok (.aload_n 0, 1) := by decide +kernel
theorem dL_law_1208 : decode cL_law 1208 = .ok (.iload_n 3, 1) := by decide +kernel
theorem dL_law_1209 : decode cL_law 1209 = .ok (.iconst 4, 1) := by decide +kernel
theorem dL_law_1210 : decode cL_law 1210 = .ok (.iadd, 1) := by decide +kernel
theorem dL_law_1211 : decode cL_law 1211 = .ok (.iaload, 1) := by decide +kernel
theorem dL_law_1212 : decode cL_law 1212 = .ok (.invokevirtual 135, 3) := by decide +kernel
theorem dL_law_1215 : decode cL_law 1215 = .ok (.aload_n 2, 1) := by decide +kernel
theorem dL_law_1216 : decode cL_law 1216 = .ok (.aload_n 0, 1) := by decide +kernel
theorem dL_law_1217 : decode cL_law 1217 = .ok (.iload_n 3, 1) := by decide +kernel
theorem dL_law_1218 : decode cL_law 1218 = .ok (.iconst 1, 1) := by decide +kernel
theorem dL_law_1219 : decode cL_law 1219 = .ok (.iadd, 1) := by decide +kernel
theorem dL_law_1220 : decode cL_law 1220 = .ok (.iaload, 1) := by decide +kernel
theorem dL_law_1221 : decode cL_law 1221 = .ok (.aload_n 0, 1) := by decide +kernel
theorem dL_law_1222 : decode cL_law 1222 = .ok (.iload_n 3, 1) := by decide +kernel
theorem dL_law_1223 : decode cL_law 1223 = .ok (.iconst 2, 1) := by decide +kernel
theorem dL_law_1224 : decode cL_law 1224 = .ok (.iadd, 1) := by decide +kernel
theorem dL_law_1225 : decode cL_law 1225 = .ok (.iaload, 1) := by decide +kernel
theorem dL_law_1226 : decode cL_law 1226 = .ok (.aload_n 0, 1) := by decide +kernel
theorem dL_law_1227 : decode cL_law 1227 = .ok (.iload_n 3, 1) := by decide +kernel
theorem dL_law_1228 : decode cL_law 1228 = .ok (.iconst 3, 1) := by decide +kernel
theorem dL_law_1229 : decode cL_law 1229 = .ok (.iadd, 1) := by decide +kernel
theorem dL_law_1230 : decode cL_law 1230 = .ok (.iaload, 1) := by decide +kernel
theorem dL_law_1231 : decode cL_law 1231 = .ok (.aload_n 0, 1) := by decide +kernel
theorem dL_law_1232 : decode cL_law 1232 = .ok (.iload_n 3, 1) := by decide +kernel
theorem dL_law_1233 : decode cL_law 1233 = .ok (.iconst 4, 1) := by decide +kernel
theorem dL_law_1234 : decode cL_law 1234 = .ok (.iadd, 1) := by decide +kernel
theorem dL_law_1235 : decode cL_law 1235 = .ok (.iaload, 1) := by decide +kernel
theorem dL_law_1236 : decode cL_law 1236 = .ok (.invokevirtual 138, 3) := by decide +kernel
theorem dL_law_1239 : decode cL_law 1239 = .ok (.if_icmp .eq 505, 3) := by decide +kernel
theorem dL_law_1242 : decode cL_law 1242 = .ok (.iconst 0, 1) := by decide +kernel
theorem dL_law_1243 : decode cL_law 1243 = .ok (.ireturn, 1) := by decide +kernel
theorem dL_law_1244 : decode cL_law 1244 = .ok (.aload_n 1, 1) := by decide +kernel
theorem dL_law_1245 : decode cL_law 1245 = .ok (.aload_n 0, 1) := by decide +kernel
theorem dL_law_1246 : decode cL_law 1246 = .ok (.iload_n 3, 1) := by decide +kernel
theorem dL_law_1247 : decode cL_law 1247 = .ok (.iconst 1, 1) := by decide +kernel
theorem dL_law_1248 : decode cL_law 1248 = .ok (.iadd, 1) := by decide +kernel
theorem dL_law_1249 : decode cL_law 1249 = .ok (.iaload, 1) := by decide +kernel
theorem dL_law_1250 : decode cL_law 1250 = .ok (.aload_n 0, 1) := by decide +kernel
theorem dL_law_1251 : decode cL_law 1251 = .ok (.iload_n 3, 1) := by decide +kernel
theorem dL_law_1252 : decode cL_law 1252 = .ok (.iconst 2, 1) := by decide +kernel
theorem dL_law_1253 : decode cL_law 1253 = .ok (.iadd, 1) := by decide +kernel
theorem dL_law_1254 : decode cL_law 1254 = .ok (.iaload, 1) := by decide +kernel
theorem dL_law_1255 : decode cL_law 1255 = .ok (.invokevirtual 139, 3) := by decide +kernel
theorem dL_law_1258 : decode cL_law 1258 = .ok (.aload_n 2, 1) := by decide +kernel
theorem dL_law_1259 : decode cL_law 1259 = .ok (.aload_n 0, 1) := by decide +kernel
theorem dL_law_1260 : decode cL_law 1260 = .ok (.iload_n 3, 1) := by decide +kernel
theorem dL_law_1261 : decode cL_law 1261 = .ok (.iconst 1, 1) := by decide +kernel
theorem dL_law_1262 : decode cL_law 1262 = .ok (.iadd, 1) := by decide +kernel
theorem dL_law_1263 : decode cL_law 1263 = .ok (.iaload, 1) := by decide +kernel
theorem dL_law_1264 : decode cL_law 1264 = .ok (.aload_n 0, 1) := by decide +kernel
theorem dL_law_1265 : decode cL_law 1265 = .ok (.iload_n 3, 1) := by decide +kernel
theorem dL_law_1266 : decode cL_law 1266 = .ok (.iconst 2, 1) := by decide +kernel
theorem dL_law_1267 : decode cL_law 1267 = .ok (.iadd, 1) := by decide +kernel
theorem dL_law_1268 : decode cL_law 1268 = .ok (.iaload, 1) := by decide +kernel
theorem dL_law_1269 : decode cL_law 1269 = .ok (.invokevirtual 142, 3) := by decide +kernel
theorem dL_law_1272 : decode cL_law 1272 = .ok (.if_icmp .eq 472, 3) := by decide +kernel
theorem dL_law_1275 : decode cL_law 1275 = .ok (.iconst 0, 1) := by decide +kernel
theorem dL_law_1276 : decode cL_law 1276 = .ok (.ireturn, 1) := by decide +kernel
theorem dL_law_1277 : decode cL_law 1277 = .ok (.aload_n 1, 1) := by decide +kernel
theorem dL_law_1278 : decode cL_law 1278 = .ok (.aload_n 0, 1) := by decide +kernel
theorem dL_law_1279 : decode cL_law 1279 = .ok (.iload_n 3, 1) := by decide +kernel
theorem dL_law_1280 : decode cL_law 1280 = .ok (.iconst 1, 1) := by decide +kernel
theorem dL_law_1281 : decode cL_law 1281 = .ok (.iadd, 1) := by decide +kernel
theorem dL_law_1282 : decode cL_law 1282 = .ok (.iaload, 1) := by decide +kernel
theorem dL_law_1283 : decode cL_law 1283 = .ok (.invokevirtual 143, 3) := by decide +kernel
theorem dL_law_1286 : decode cL_law 1286 = .ok (.aload_n 2, 1) := by decide +kernel
theorem dL_law_1287 : decode cL_law 1287 = .ok (.aload_n 0, 1) := by decide +kernel
theorem dL_law_1288 : decode cL_law 1288 = .ok (.iload_n 3, 1) := by decide +kernel
theorem dL_law_1289 : decode cL_law 1289 = .ok (.iconst 1, 1) := by decide +kernel
theorem dL_law_1290 : decode cL_law 1290 = .ok (.iadd, 1) := by decide +kernel
theorem dL_law_1291 : decode cL_law 1291 = .ok (.iaload, 1) := by decide +kernel
theorem dL_law_1292 : decode cL_law 1292 = .ok (.invokevirtual 146, 3) := by decide +kernel
theorem dL_law_1295 : decode cL_law 1295 = .ok (.if_icmp .eq 449, 3) := by decide +kernel
theorem dL_law_1298 : decode cL_law 1298 = .ok (.iconst 0, 1) := by decide +kernel
theorem dL_law_1299 : decode cL_law 1299 = .ok (.ireturn, 1) := by decide +kernel
theorem dL_law_1300 : decode cL_law 1300 = .ok (.aload_n 1, 1) := by decide +kernel
theorem dL_law_1301 : decode cL_law 1301 = .ok (.aload_n 0, 1) := by decide +kernel
theorem dL_law_1302 : decode cL_law 1302 = .ok (.iload_n 3, 1) := by decide +kernel
theorem dL_law_1303 : decode cL_law 1303 = .ok (.iconst 1, 1) := by decide +kernel
theorem dL_law_1304 : decode cL_law 1304 = .ok (.iadd, 1) := by decide +kernel
theorem dL_law_1305 : decode cL_law 1305 = .ok (.iaload, 1) := by decide +kernel
theorem dL_law_1306 : decode cL_law 1306 = .ok (.aload_n 0, 1) := by decide +kernel
theorem dL_law_1307 : decode cL_law 1307 = .ok (.iload_n 3, 1) := by decide +kernel
theorem dL_law_1308 : decode cL_law 1308 = .ok (.iconst 2, 1) := by decide +kernel
theorem dL_law_1309 : decode cL_law 1309 = .ok (.iadd, 1) := by decide +kernel
theorem dL_law_1310 : decode cL_law 1310 = .ok (.iaload, 1) := by decide +kernel
theorem dL_law_1311 : decode cL_law 1311 = .ok (.invokevirtual 147, 3) := by decide +kernel
theorem dL_law_1314 : decode cL_law 1314 = .ok (.aload_n 2, 1) := by decide +kernel
theorem dL_law_1315 : decode cL_law 1315 = .ok (.aload_n 0, 1) := by decide +kernel
theorem dL_law_1316 : decode cL_law 1316 = .ok (.iload_n 3, 1) := by decide +kernel
theorem dL_law_1317 : decode cL_law 1317 = .ok (.iconst 1, 1) := by decide +kernel
theorem dL_law_1318 : decode cL_law 1318 = .ok (.iadd, 1) := by decide +kernel
theorem dL_law_1319 : decode cL_law 1319 = .ok (.iaload, 1) := by decide +kernel
theorem dL_law_1320 : decode cL_law 1320 = .ok (.aload_n 0, 1) := by decide +kernel
theorem dL_law_1321 : decode cL_law 1321 = .ok (.iload_n 3, 1) := by decide +kernel
theorem dL_law_1322 : decode cL_law 1322 = .ok (.iconst 2, 1) := by decide +kernel
theorem dL_law_1323 : decode cL_law 1323 = .ok (.iadd, 1) := by decide +kernel
theorem dL_law_1324 : decode cL_law 1324 = .ok (.iaload, 1) := by decide +kernel
theorem dL_law_1325 : decode cL_law 1325 = .ok (.invokevirtual 150, 3) := by decide +kernel
theorem dL_law_1328 : decode cL_law 1328 = .ok (.if_icmp .eq 416, 3) := by decide +kernel
theorem dL_law_1331 : decode cL_law 1331 = .ok (.iconst 0, 1) := by decide +kernel
theorem dL_law_1332 : decode cL_law 1332 = .ok (.ireturn, 1) := by decide +kernel
theorem dL_law_1333 : decode cL_law 1333 = .ok (.aload_n 1, 1) := by decide +kernel
theorem dL_law_1334 : decode cL_law 1334 = .ok (.aload_n 0, 1) := by decide +kernel
theorem dL_law_1335 : decode cL_law 1335 = .ok (.iload_n 3, 1) := by decide +kernel
theorem dL_law_1336 : decode cL_law 1336 = .ok (.iconst 1, 1) := by decide +kernel
theorem dL_law_1337 : decode cL_law 1337 = .ok (.iadd, 1) := by decide +kernel
theorem dL_law_1338 : decode cL_law 1338 = .ok (.iaload, 1) := by decide +kernel
theorem dL_law_1339 : decode cL_law 1339 = .ok (.aload_n 0, 1) := by decide +kernel
theorem dL_law_1340 : decode cL_law 1340 = .ok (.iload_n 3, 1) := by decide +kernel
theorem dL_law_1341 : decode cL_law 1341 = .ok (.iconst 2, 1) := by decide +kernel
theorem dL_law_1342 : decode cL_law 1342 = .ok (.iadd, 1) := by decide +kernel
theorem dL_law_1343 : decode cL_law 1343 = .ok (.iaload, 1) := by decide +kernel
theorem dL_law_1344 : decode cL_law 1344 = .ok (.invokevirtual 151, 3) := by decide +kernel
theorem dL_law_1347 : decode cL_law 1347 = .ok (.aload_n 2, 1) := by decide +kernel
theorem dL_law_1348 : decode cL_law 1348 = .ok (.aload_n 0, 1) := by decide +kernel
theorem dL_law_1349 : decode cL_law 1349 = .ok (.iload_n 3, 1) := by decide +kernel
theorem dL_law_1350 : decode cL_law 1350 = .ok (.iconst 1, 1) := by decide +kernel
theorem dL_law_1351 : decode cL_law 1351 = .ok (.iadd, 1) := by decide +kernel
theorem dL_law_1352 : decode cL_law 1352 = .ok (.iaload, 1) := by decide +kernel
theorem dL_law_1353 : decode cL_law 1353 = .ok (.aload_n 0, 1) := by decide +kernel
theorem dL_law_1354 : decode cL_law 1354 = .ok (.iload_n 3, 1) := by decide +kernel
theorem dL_law_1355 : decode cL_law 1355 = .ok (.iconst 2, 1) := by decide +kernel
theorem dL_law_1356 : decode cL_law 1356 = .ok (.iadd, 1) := by decide +kernel
theorem dL_law_1357 : decode cL_law 1357 = .ok (.iaload, 1) := by decide +kernel
theorem dL_law_1358 : decode cL_law 1358 = .ok (.invokevirtual 154, 3) := by decide +kernel
theorem dL_law_1361 : decode cL_law 1361 = .ok (.if_icmp .eq 383, 3) := by decide +kernel
theorem dL_law_1364 : decode cL_law 1364 = .ok (.iconst 0, 1) := by decide +kernel
theorem dL_law_1365 : decode cL_law 1365 = .ok (.ireturn, 1) := by decide +kernel
theorem dL_law_1366 : decode cL_law 1366 = .ok (.aload_n 1, 1) := by decide +kernel
theorem dL_law_1367 : decode cL_law 1367 = .ok (.aload_n 0, 1) := by decide +kernel
theorem dL_law_1368 : decode cL_law 1368 = .ok (.iload_n 3, 1) := by decide +kernel
theorem dL_law_1369 : decode cL_law 1369 = .ok (.iconst 1, 1) := by decide +kernel
theorem dL_law_1370 : decode cL_law 1370 = .ok (.iadd, 1) := by decide +kernel
theorem dL_law_1371 : decode cL_law 1371 = .ok (.iaload, 1) := by decide +kernel
theorem dL_law_1372 : decode cL_law 1372 = .ok (.aload_n 0, 1) := by decide +kernel
theorem dL_law_1373 : decode cL_law 1373 = .ok (.iload_n 3, 1) := by decide +kernel
theorem dL_law_1374 : decode cL_law 1374 = .ok (.iconst 2, 1) := by decide +kernel
theorem dL_law_1375 : decode cL_law 1375 = .ok (.iadd, 1) := by decide +kernel
theorem dL_law_1376 : decode cL_law 1376 = .ok (.iaload, 1) := by decide +kernel
theorem dL_law_1377 : decode cL_law 1377 = .ok (.invokevirtual 155, 3) := by decide +kernel
theorem dL_law_1380 : decode cL_law 1380 = .ok (.aload_n 2, 1) := by decide +kernel
theorem dL_law_1381 : decode cL_law 1381 = .ok (.aload_n 0, 1) := by decide +kernel
theorem dL_law_1382 : decode cL_law 1382 = .ok (.iload_n 3, 1) := by decide +kernel
theorem dL_law_1383 : decode cL_law 1383 = .ok (.iconst 1, 1) := by decide +kernel
theorem dL_law_1384 : decode cL_law 1384 = .ok (.iadd, 1) := by decide +kernel
theorem dL_law_1385 : decode cL_law 1385 = .ok (.iaload, 1) := by decide +kernel
theorem dL_law_1386 : decode cL_law 1386 = .ok (.aload_n 0, 1) := by decide +kernel
theorem dL_law_1387 : decode cL_law 1387 = .ok (.iload_n 3, 1) := by decide +kernel
theorem dL_law_1388 : decode cL_law 1388 = .ok (.iconst 2, 1) := by decide +kernel
theorem dL_law_1389 : decode cL_law 1389 = .ok (.iadd, 1) := by decide +kernel
theorem dL_law_1390 : decode cL_law 1390 = .ok (.iaload, 1) := by decide +kernel
theorem dL_law_1391 : decode cL_law 1391 = .ok (.invokevirtual 158, 3) := by decide +kernel
theorem dL_law_1394 : decode cL_law 1394 = .ok (.if_icmp .eq 350, 3) := by decide +kernel
theorem dL_law_1397 : decode cL_law 1397 = .ok (.iconst 0, 1) := by decide +kernel
theorem dL_law_1398 : decode cL_law 1398 = .ok (.ireturn, 1) := by decide +kernel
theorem dL_law_1399 : decode cL_law 1399 = .ok (.aload_n 1, 1) := by decide +kernel
theorem dL_law_1400 : decode cL_law 1400 = .ok (.aload_n 0, 1) := by decide +kernel
theorem dL_law_1401 : decode cL_law 1401 = .ok (.iload_n 3, 1) := by decide +kernel
theorem dL_law_1402 : decode cL_law 1402 = .ok (.iconst 1, 1) := by decide +kernel
theorem dL_law_1403 : decode cL_law 1403 = .ok (.iadd, 1) := by decide +kernel
theorem dL_law_1404 : decode cL_law 1404 = .ok (.iaload, 1) := by decide +kernel
theorem dL_law_1405 : decode cL_law 1405 = .ok (.aload_n 0, 1) := by decide +kernel
theorem dL_law_1406 : decode cL_law 1406 = .ok (.iload_n 3, 1) := by decide +kernel
theorem dL_law_1407 : decode cL_law 1407 = .ok (.iconst 2, 1) := by decide +kernel
theorem dL_law_1408 : decode cL_law 1408 = .ok (.iadd, 1) := by decide +kernel
theorem dL_law_1409 : decode cL_law 1409 = .ok (.iaload, 1) := by decide +kernel
theorem dL_law_1410 : decode cL_law 1410 = .ok (.aload_n 0, 1) := by decide +kernel
theorem dL_law_1411 : decode cL_law 1411 = .ok (.iload_n 3, 1) := by decide +kernel
theorem dL_law_1412 : decode cL_law 1412 = .ok (.iconst 3, 1) := by decide +kernel
theorem dL_law_1413 : decode cL_law 1413 = .ok (.iadd, 1) := by decide +kernel
theorem dL_law_1414 : decode cL_law 1414 = .ok (.iaload, 1) := by decide +kernel
theorem dL_law_1415 : decode cL_law 1415 = .ok (.invokevirtual 159, 3) := by decide +kernel
theorem dL_law_1418 : decode cL_law 1418 = .ok (.aload_n 2, 1) := by decide +kernel
theorem dL_law_1419 : decode cL_law 1419 = .ok (.aload_n 0, 1) := by decide +kernel
theorem dL_law_1420 : decode cL_law 1420 = .ok (.iload_n 3, 1) := by decide +kernel
theorem dL_law_1421 : decode cL_law 1421 = .ok (.iconst 1, 1) := by decide +kernel
theorem dL_law_1422 : decode cL_law 1422 = .ok (.iadd, 1) := by decide +kernel
theorem dL_law_1423 : decode cL_law 1423 = .ok (.iaload, 1) := by decide +kernel
theorem dL_law_1424 : decode cL_law 1424 = .ok (.aload_n 0, 1) := by decide +kernel
theorem dL_law_1425 : decode cL_law 1425 = .ok (.iload_n 3, 1) := by decide +kernel
theorem dL_law_1426 : decode cL_law 1426 = .ok (.iconst 2, 1) := by decide +kernel
theorem dL_law_1427 : decode cL_law 1427 = .ok (.iadd, 1) := by decide +kernel
theorem dL_law_1428 : decode cL_law 1428 = .ok (.iaload, 1) := by decide +kernel
theorem dL_law_1429 : decode cL_law 1429 = .ok (.aload_n 0, 1) := by decide +kernel
theorem dL_law_1430 : decode cL_law 1430 = .ok (.iload_n 3, 1) := by decide +kernel
theorem dL_law_1431 : decode cL_law 1431 = .ok (.iconst 3, 1) := by decide +kernel
theorem dL_law_1432 : decode cL_law 1432 = .ok (.iadd, 1) := by decide +kernel
theorem dL_law_1433 : decode cL_law 1433 = .ok (.iaload, 1) := by decide +kernel
theorem dL_law_1434 : decode cL_law 1434 = .ok (.invokevirtual 162, 3) := by decide +kernel
theorem dL_law_1437 : decode cL_law 1437 = .ok (.if_icmp .eq 307, 3) := by decide +kernel
theorem dL_law_1440 : decode cL_law 1440 = .ok (.iconst 0, 1) := by decide +kernel
theorem dL_law_1441 : decode cL_law 1441 = .ok (.ireturn, 1) := by decide +kernel
theorem dL_law_1442 : decode cL_law 1442 = .ok (.aload_n 1, 1) := by decide +kernel
theorem dL_law_1443 : decode cL_law 1443 = .ok (.aload_n 0, 1) := by decide +kernel
theorem dL_law_1444 : decode cL_law 1444 = .ok (.iload_n 3, 1) := by decide +kernel
theorem dL_law_1445 : decode cL_law 1445 = .ok (.iconst 1, 1) := by decide +kernel
theorem dL_law_1446 : decode cL_law 1446 = .ok (.iadd, 1) := by decide +kernel
theorem dL_law_1447 : decode cL_law 1447 = .ok (.iaload, 1) := by decide +kernel
theorem dL_law_1448 : decode cL_law 1448 = .ok (.aload_n 0, 1) := by decide +kernel
theorem dL_law_1449 : decode cL_law 1449 = .ok (.iload_n 3, 1) := by decide +kernel
theorem dL_law_1450 : decode cL_law 1450 = .ok (.iconst 2, 1) := by decide +kernel
theorem dL_law_1451 : decode cL_law 1451 = .ok (.iadd, 1) := by decide +kernel
theorem dL_law_1452 : decode cL_law 1452 = .ok (.iaload, 1) := by decide +kernel
theorem dL_law_1453 : decode cL_law 1453 = .ok (.invokevirtual 163, 3) := by decide +kernel
theorem dL_law_1456 : decode cL_law 1456 = .ok (.aload_n 2, 1) := by decide +kernel
theorem dL_law_1457 : decode cL_law 1457 = .ok (.aload_n 0, 1) := by decide +kernel
theorem dL_law_1458 : decode cL_law 1458 = .ok (.iload_n 3, 1) := by decide +kernel
theorem dL_law_1459 : decode cL_law 1459 = .ok (.iconst 1, 1) := by decide +kernel
theorem dL_law_1460 : decode cL_law 1460 = .ok (.iadd, 1) := by decide +kernel
theorem dL_law_1461 : decode cL_law 1461 = .ok (.iaload, 1) := by decide +kernel
theorem dL_law_1462 : decode cL_law 1462 = .ok (.aload_n 0, 1) := by decide +kernel
theorem dL_law_1463 : decode cL_law 1463 = .ok (.iload_n 3, 1) := by decide +kernel
theorem dL_law_1464 : decode cL_law 1464 = .ok (.iconst 2, 1) := by decide +kernel
theorem dL_law_1465 : decode cL_law 1465 = .ok (.iadd, 1) := by decide +kernel
theorem dL_law_1466 : decode cL_law 1466 = .ok (.iaload, 1) := by decide +kernel
theorem dL_law_1467 : decode cL_law 1467 = .ok (.invokevirtual 166, 3) := by decide +kernel
theorem dL_law_1470 : decode cL_law 1470 = .ok (.if_icmp .eq 274, 3) := by decide +kernel
theorem dL_law_1473 : decode cL_law 1473 = .ok (.iconst 0, 1) := by decide +kernel
theorem dL_law_1474 : decode cL_law 1474 = .ok (.ireturn, 1) := by decide +kernel
theorem dL_law_1475 : decode cL_law 1475 = .ok (.aload_n 1, 1) := by decide +kernel
theorem dL_law_1476 : decode cL_law 1476 = .ok (.aload_n 0, 1) := by decide +kernel
theorem dL_law_1477 : decode cL_law 1477 = .ok (.iload_n 3, 1) := by decide +kernel
theorem dL_law_1478 : decode cL_law 1478 = .ok (.iconst 1, 1) := by decide +kernel
theorem dL_law_1479 : decode cL_law 1479 = .ok (.iadd, 1) := by decide +kernel
theorem dL_law_1480 : decode cL_law 1480 = .ok (.iaload, 1) := by decide +kernel
theorem dL_law_1481 : decode cL_law 1481 = .ok (.aload_n 0, 1) := by decide +kernel
theorem dL_law_1482 : decode cL_law 1482 = .ok (.iload_n 3, 1) := by decide +kernel
theorem dL_law_1483 : decode cL_law 1483 = .ok (.iconst 2, 1) := by decide +kernel
theorem dL_law_1484 : decode cL_law 1484 = .ok (.iadd, 1) := by decide +kernel
theorem dL_law_1485 : decode cL_law 1485 = .ok (.iaload, 1) := by decide +kernel
theorem dL_law_1486 : decode cL_law 1486 = .ok (.aload_n 0, 1) := by decide +kernel
theorem dL_law_1487 : decode cL_law 1487 = .ok (.iload_n 3, 1) := by decide +kernel
theorem dL_law_1488 : decode cL_law 1488 = .ok (.iconst 3, 1) := by decide +kernel
theorem dL_law_1489 : decode cL_law 1489 = .ok (.iadd, 1) := by decide +kernel
theorem dL_law_1490 : decode cL_law 1490 = .ok (.iaload, 1) := by decide +kernel
theorem dL_law_1491 : decode cL_law 1491 = .ok (.invokevirtual 167, 3) := by decide +kernel
theorem dL_law_1494 : decode cL_law 1494 = .ok (.aload_n 2, 1) := by decide +kernel
theorem dL_law_1495 : decode cL_law 1495 = .ok (.aload_n 0, 1) := by decide +kernel
theorem dL_law_1496 : decode cL_law 1496 = .ok (.iload_n 3, 1) := by decide +kernel
theorem dL_law_1497 : decode cL_law 1497 = .ok (.iconst 1, 1) := by decide +kernel
theorem dL_law_1498 : decode cL_law 1498 = .ok (.iadd, 1) := by decide +kernel
theorem dL_law_1499 : decode cL_law 1499 = .ok (.iaload, 1) := by decide +kernel
theorem dL_law_1500 : decode cL_law 1500 = .ok (.aload_n 0, 1) := by decide +kernel
theorem dL_law_1501 : decode cL_law 1501 = .ok (.iload_n 3, 1) := by decide +kernel
theorem dL_law_1502 : decode cL_law 1502 = .ok (.iconst 2, 1) := by decide +kernel
theorem dL_law_1503 : decode cL_law 1503 = .ok (.iadd, 1) := by decide +kernel
theorem dL_law_1504 : decode cL_law 1504 = .ok (.iaload, 1) := by decide +kernel
theorem dL_law_1505 : decode cL_law 1505 = .ok (.aload_n 0, 1) := by decide +kernel
theorem dL_law_1506 : decode cL_law 1506 = .ok (.iload_n 3, 1) := by decide +kernel
theorem dL_law_1507 : decode cL_law 1507 = .ok (.iconst 3, 1) := by decide +kernel
theorem dL_law_1508 : decode cL_law 1508 = .ok (.iadd, 1) := by decide +kernel
theorem dL_law_1509 : decode cL_law 1509 = .ok (.iaload, 1) := by decide +kernel
theorem dL_law_1510 : decode cL_law 1510 = .ok (.invokevirtual 170, 3) := by decide +kernel
theorem dL_law_1513 : decode cL_law 1513 = .ok (.if_icmp .eq 231, 3) := by decide +kernel
theorem dL_law_1516 : decode cL_law 1516 = .ok (.iconst 0, 1) := by decide +kernel
theorem dL_law_1517 : decode cL_law 1517 = .ok (.ireturn, 1) := by decide +kernel
theorem dL_law_1518 : decode cL_law 1518 = .ok (.aload_n 1, 1) := by decide +kernel
theorem dL_law_1519 : decode cL_law 1519 = .ok (.aload_n 0, 1) := by decide +kernel
theorem dL_law_1520 : decode cL_law 1520 = .ok (.iload_n 3, 1) := by decide +kernel
theorem dL_law_1521 : decode cL_law 1521 = .ok (.iconst 1, 1) := by decide +kernel
theorem dL_law_1522 : decode cL_law 1522 = .ok (.iadd, 1) := by decide +kernel
theorem dL_law_1523 : decode cL_law 1523 = .ok (.iaload, 1) := by decide +kernel
theorem dL_law_1524 : decode cL_law 1524 = .ok (.aload_n 0, 1) := by decide +kernel
theorem dL_law_1525 : decode cL_law 1525 = .ok (.iload_n 3, 1) := by decide +kernel
theorem dL_law_1526 : decode cL_law 1526 = .ok (.iconst 2, 1) := by decide +kernel
theorem dL_law_1527 : decode cL_law 1527 = .ok (.iadd, 1) := by decide +kernel
theorem dL_law_1528 : decode cL_law 1528 = .ok (.iaload, 1) := by decide +kernel
theorem dL_law_1529 : decode cL_law 1529 = .ok (.invokevirtual 171, 3) := by decide +kernel
theorem dL_law_1532 : decode cL_law 1532 = .ok (.aload_n 2, 1) := by decide +kernel
theorem dL_law_1533 : decode cL_law 1533 = .ok (.aload_n 0, 1) := by decide +kernel
theorem dL_law_1534 : decode cL_law 1534 = .ok (.iload_n 3, 1) := by decide +kernel
theorem dL_law_1535 : decode cL_law 1535 = .ok (.iconst 1, 1) := by decide +kernel
theorem dL_law_1536 : decode cL_law 1536 = .ok (.iadd, 1) := by decide +kernel
theorem dL_law_1537 : decode cL_law 1537 = .ok (.iaload, 1) := by decide +kernel
theorem dL_law_1538 : decode cL_law 1538 = .ok (.aload_n 0, 1) := by decide +kernel
theorem dL_law_1539 : decode cL_law 1539 = .ok (.iload_n 3, 1) := by decide +kernel
theorem dL_law_1540 : decode cL_law 1540 = .ok (.iconst 2, 1) := by decide +kernel
theorem dL_law_1541 : decode cL_law 1541 = .ok (.iadd, 1) := by decide +kernel
theorem dL_law_1542 : decode cL_law 1542 = .ok (.iaload, 1) := by decide +kernel
theorem dL_law_1543 : decode cL_law 1543 = .ok (.invokevirtual 174, 3) := by decide +kernel
theorem dL_law_1546 : decode cL_law 1546 = .ok (.if_icmp .eq 198, 3) := by decide +kernel
theorem dL_law_1549 : decode cL_law 1549 = .ok (.iconst 0, 1) := by decide +kernel
theorem dL_law_1550 : decode cL_law 1550 = .ok (.ireturn, 1) := by decide +kernel
theorem dL_law_1551 : decode cL_law 1551 = .ok (.aload_n 1, 1) := by decide +kernel
theorem dL_law_1552 : decode cL_law 1552 = .ok (.aload_n 0, 1) := by decide +kernel
theorem dL_law_1553 : decode cL_law 1553 = .ok (.iload_n 3, 1) := by decide +kernel
theorem dL_law_1554 : decode cL_law 1554 = .ok (.iconst 1, 1) := by decide +kernel
theorem dL_law_1555 : decode cL_law 1555 = .ok (.iadd, 1) := by decide +kernel
theorem dL_law_1556 : decode cL_law 1556 = .ok (.iaload, 1) := by decide +kernel
theorem dL_law_1557 : decode cL_law 1557 = .ok (.invokevirtual 175, 3) := by decide +kernel
theorem dL_law_1560 : decode cL_law 1560 = .ok (.aload_n 2, 1) := by decide +kernel
theorem dL_law_1561 : decode cL_law 1561 = .ok (.aload_n 0, 1) := by decide +kernel
theorem dL_law_1562 : decode cL_law 1562 = .ok (.iload_n 3, 1) := by decide +kernel
theorem dL_law_1563 : decode cL_law 1563 = .ok (.iconst 1, 1) := by decide +kernel
theorem dL_law_1564 : decode cL_law 1564 = .ok (.iadd, 1) := by decide +kernel
theorem dL_law_1565 : decode cL_law 1565 = .ok (.iaload, 1) := by decide +kernel
theorem dL_law_1566 : decode cL_law 1566 = .ok (.invokevirtual 178, 3) := by decide +kernel
theorem dL_law_1569 : decode cL_law 1569 = .ok (.if_icmp .eq 175, 3) := by decide +kernel
theorem dL_law_1572 : decode cL_law 1572 = .ok (.iconst 0, 1) := by decide +kernel
theorem dL_law_1573 : decode cL_law 1573 = .ok (.ireturn, 1) := by decide +kernel
theorem dL_law_1574 : decode cL_law 1574 = .ok (.aload_n 1, 1) := by decide +kernel
theorem dL_law_1575 : decode cL_law 1575 = .ok (.aload_n 0, 1) := by decide +kernel
theorem dL_law_1576 : decode cL_law 1576 = .ok (.iload_n 3, 1) := by decide +kernel
theorem dL_law_1577 : decode cL_law 1577 = .ok (.iconst 1, 1) := by decide +kernel
theorem dL_law_1578 : decode cL_law 1578 = .ok (.iadd, 1) := by decide +kernel
theorem dL_law_1579 : decode cL_law 1579 = .ok (.iaload, 1) := by decide +kernel
theorem dL_law_1580 : decode cL_law 1580 = .ok (.invokevirtual 179, 3) := by decide +kernel
theorem dL_law_1583 : decode cL_law 1583 = .ok (.aload_n 2, 1) := by decide +kernel
theorem dL_law_1584 : decode cL_law 1584 = .ok (.aload_n 0, 1) := by decide +kernel
theorem dL_law_1585 : decode cL_law 1585 = .ok (.iload_n 3, 1) := by decide +kernel
theorem dL_law_1586 : decode cL_law 1586 = .ok (.iconst 1, 1) := by decide +kernel
theorem dL_law_1587 : decode cL_law 1587 = .ok (.iadd, 1) := by decide +kernel
theorem dL_law_1588 : decode cL_law 1588 = .ok (.iaload, 1) := by decide +kernel
theorem dL_law_1589 : decode cL_law 1589 = .ok (.invokevirtual 182, 3) := by decide +kernel
theorem dL_law_1592 : decode cL_law 1592 = .ok (.if_icmp .eq 152, 3) := by decide +kernel
theorem dL_law_1595 : decode cL_law 1595 = .ok (.iconst 0, 1) := by decide +kernel
theorem dL_law_1596 : decode cL_law 1596 = .ok (.ireturn, 1) := by decide +kernel
theorem dL_law_1597 : decode cL_law 1597 = .ok (.aload_n 1, 1) := by decide +kernel
theorem dL_law_1598 : decode cL_law 1598 = .ok (.aload_n 0, 1) := by decide +kernel
theorem dL_law_1599 : decode cL_law 1599 = .ok (.iload_n 3, 1) := by decide +kernel
theorem dL_law_1600 : decode cL_law 1600 = .ok (.iconst 1, 1) := by decide +kernel
theorem dL_law_1601 : decode cL_law 1601 = .ok (.iadd, 1) := by decide +kernel
theorem dL_law_1602 : decode cL_law 1602 = .ok (.iaload, 1) := by decide +kernel
theorem dL_law_1603 : decode cL_law 1603 = .ok (.aload_n 0, 1) := by decide +kernel
theorem dL_law_1604 : decode cL_law 1604 = .ok (.iload_n 3, 1) := by decide +kernel
theorem dL_law_1605 : decode cL_law 1605 = .ok (.iconst 2, 1) := by decide +kernel
theorem dL_law_1606 : decode cL_law 1606 = .ok (.iadd, 1) := by decide +kernel
theorem dL_law_1607 : decode cL_law 1607 = .ok (.iaload, 1) := by decide +kernel
theorem dL_law_1608 : decode cL_law 1608 = .ok (.invokevirtual 183, 3) := by decide +kernel
theorem dL_law_1611 : decode cL_law 1611 = .ok (.aload_n 2, 1) := by decide +kernel
theorem dL_law_1612 : decode cL_law 1612 = .ok (.aload_n 0, 1) := by decide +kernel
theorem dL_law_1613 : decode cL_law 1613 = .ok (.iload_n 3, 1) := by decide +kernel
theorem dL_law_1614 : decode cL_law 1614 = .ok (.iconst 1, 1) := by decide +kernel
theorem dL_law_1615 : decode cL_law 1615 = .ok (.iadd, 1) := by decide +kernel
theorem dL_law_1616 : decode cL_law 1616 = .ok (.iaload, 1) := by decide +kernel
theorem dL_law_1617 : decode cL_law 1617 = .ok (.aload_n 0, 1) := by decide +kernel
theorem dL_law_1618 : decode cL_law 1618 = .ok (.iload_n 3, 1) := by decide +kernel
theorem dL_law_1619 : decode cL_law 1619 = .ok (.iconst 2, 1) := by decide +kernel
theorem dL_law_1620 : decode cL_law 1620 = .ok (.iadd, 1) := by decide +kernel
theorem dL_law_1621 : decode cL_law 1621 = .ok (.iaload, 1) := by decide +kernel
theorem dL_law_1622 : decode cL_law 1622 = .ok (.invokevirtual 186, 3) := by decide +kernel
theorem dL_law_1625 : decode cL_law 1625 = .ok (.if_icmp .eq 119, 3) := by decide +kernel
theorem dL_law_1628 : decode cL_law 1628 = .ok (.iconst 0, 1) := by decide +kernel
theorem dL_law_1629 : decode cL_law 1629 = .ok (.ireturn, 1) := by decide +kernel
theorem dL_law_1630 : decode cL_law 1630 = .ok (.aload_n 1, 1) := by decide +kernel
theorem dL_law_1631 : decode cL_law 1631 = .ok (.invokevirtual 187, 3) := by decide +kernel
theorem dL_law_1634 : decode cL_law 1634 = .ok (.aload_n 2, 1) := by decide +kernel
theorem dL_law_1635 : decode cL_law 1635 = .ok (.invokevirtual 190, 3) := by decide +kernel
theorem dL_law_1638 : decode cL_law 1638 = .ok (.if_icmp .eq 106, 3) := by decide +kernel
theorem dL_law_1641 : decode cL_law 1641 = .ok (.iconst 0, 1) := by decide +kernel
theorem dL_law_1642 : decode cL_law 1642 = .ok (.ireturn, 1) := by decide +kernel
theorem dL_law_1643 : decode cL_law 1643 = .ok (.aload_n 1, 1) := by decide +kernel
theorem dL_law_1644 : decode cL_law 1644 = .ok (.invokevirtual 191, 3) := by decide +kernel
theorem dL_law_1647 : decode cL_law 1647 = .ok (.aload_n 2, 1) := by decide +kernel
theorem dL_law_1648 : decode cL_law 1648 = .ok (.invokevirtual 195, 3) := by decide +kernel
theorem dL_law_1651 : decode cL_law 1651 = .ok (.lcmp, 1) := by decide +kernel
theorem dL_law_1652 : decode cL_law 1652 = .ok (.ifCond .eq 92, 3) := by decide +kernel
theorem dL_law_1655 : decode cL_law 1655 = .ok (.iconst 0, 1) := by decide +kernel
theorem dL_law_1656 : decode cL_law 1656 = .ok (.ireturn, 1) := by decide +kernel
theorem dL_law_1657 : decode cL_law 1657 = .ok (.aload_n 1, 1) := by decide +kernel
theorem dL_law_1658 : decode cL_law 1658 = .ok (.invokevirtual 196, 3) := by decide +kernel
theorem dL_law_1661 : decode cL_law 1661 = .ok (.aload_n 2, 1) := by decide +kernel
theorem dL_law_1662 : decode cL_law 1662 = .ok (.invokevirtual 199, 3) := by decide +kernel
theorem dL_law_1665 : decode cL_law 1665 = .ok (.lcmp, 1) := by decide +kernel
theorem dL_law_1666 : decode cL_law 1666 = .ok (.ifCond .eq 78, 3) := by decide +kernel
theorem dL_law_1669 : decode cL_law 1669 = .ok (.iconst 0, 1) := by decide +kernel
theorem dL_law_1670 : decode cL_law 1670 = .ok (.ireturn, 1) := by decide +kernel
theorem dL_law_1671 : decode cL_law 1671 = .ok (.aload_n 1, 1) := by decide +kernel
theorem dL_law_1672 : decode cL_law 1672 = .ok (.aload_n 0, 1) := by decide +kernel
theorem dL_law_1673 : decode cL_law 1673 = .ok (.iload_n 3, 1) := by decide +kernel
theorem dL_law_1674 : decode cL_law 1674 = .ok (.iconst 1, 1) := by decide +kernel
theorem dL_law_1675 : decode cL_law 1675 = .ok (.iadd, 1) := by decide +kernel
theorem dL_law_1676 : decode cL_law 1676 = .ok (.iaload, 1) := by decide +kernel
theorem dL_law_1677 : decode cL_law 1677 = .ok (.invokevirtual 200, 3) := by decide +kernel
theorem dL_law_1680 : decode cL_law 1680 = .ok (.aload_n 2, 1) := by decide +kernel
theorem dL_law_1681 : decode cL_law 1681 = .ok (.aload_n 0, 1) := by decide +kernel
theorem dL_law_1682 : decode cL_law 1682 = .ok (.iload_n 3, 1) := by decide +kernel
theorem dL_law_1683 : decode cL_law 1683 = .ok (.iconst 1, 1) := by decide +kernel
theorem dL_law_1684 : decode cL_law 1684 = .ok (.iadd, 1) := by decide +kernel
theorem dL_law_1685 : decode cL_law 1685 = .ok (.iaload, 1) := by decide +kernel
theorem dL_law_1686 : decode cL_law 1686 = .ok (.invokevirtual 203, 3) := by decide +kernel
theorem dL_law_1689 : decode cL_law 1689 = .ok (.if_icmp .eq 55, 3) := by decide +kernel
theorem dL_law_1692 : decode cL_law 1692 = .ok (.iconst 0, 1) := by decide +kernel
theorem dL_law_1693 : decode cL_law 1693 = .ok (.ireturn, 1) := by decide +kernel
theorem dL_law_1694 : decode cL_law 1694 = .ok (.aload_n 1, 1) := by decide +kernel
theorem dL_law_1695 : decode cL_law 1695 = .ok (.invokevirtual 204, 3) := by decide +kernel
theorem dL_law_1698 : decode cL_law 1698 = .ok (.aload_n 2, 1) := by decide +kernel
theorem dL_law_1699 : decode cL_law 1699 = .ok (.invokevirtual 207, 3) := by decide +kernel
theorem dL_law_1702 : decode cL_law 1702 = .ok (.if_icmp .eq 42, 3) := by decide +kernel
theorem dL_law_1705 : decode cL_law 1705 = .ok (.iconst 0, 1) := by decide +kernel
theorem dL_law_1706 : decode cL_law 1706 = .ok (.ireturn, 1) := by decide +kernel
theorem dL_law_1707 : decode cL_law 1707 = .ok (.aload_n 1, 1) := by decide +kernel
theorem dL_law_1708 : decode cL_law 1708 = .ok (.aload_n 0, 1) := by decide +kernel
theorem dL_law_1709 : decode cL_law 1709 = .ok (.iload_n 3, 1) := by decide +kernel
theorem dL_law_1710 : decode cL_law 1710 = .ok (.iconst 1, 1) := by decide +kernel
theorem dL_law_1711 : decode cL_law 1711 = .ok (.iadd, 1) := by decide +kernel
theorem dL_law_1712 : decode cL_law 1712 = .ok (.iaload, 1) := by decide +kernel
theorem dL_law_1713 : decode cL_law 1713 = .ok (.invokevirtual 208, 3) := by decide +kernel
theorem dL_law_1716 : decode cL_law 1716 = .ok (.aload_n 2, 1) := by decide +kernel
theorem dL_law_1717 : decode cL_law 1717 = .ok (.aload_n 0, 1) := by decide +kernel
theorem dL_law_1718 : decode cL_law 1718 = .ok (.iload_n 3, 1) := by decide +kernel
theorem dL_law_1719 : decode cL_law 1719 = .ok (.iconst 1, 1) := by decide +kernel
theorem dL_law_1720 : decode cL_law 1720 = .ok (.iadd, 1) := by decide +kernel
theorem dL_law_1721 : decode cL_law 1721 = .ok (.iaload, 1) := by decide +kernel
theorem dL_law_1722 : decode cL_law 1722 = .ok (.invokevirtual 211, 3) := by decide +kernel
theorem dL_law_1725 : decode cL_law 1725 = .ok (.if_icmp .eq 19, 3) := by decide +kernel
theorem dL_law_1728 : decode cL_law 1728 = .ok (.iconst 0, 1) := by decide +kernel
theorem dL_law_1729 : decode cL_law 1729 = .ok (.ireturn, 1) := by decide +kernel
theorem dL_law_1730 : decode cL_law 1730 = .ok (.aload_n 1, 1) := by decide +kernel
theorem dL_law_1731 : decode cL_law 1731 = .ok (.invokevirtual 212, 3) := by decide +kernel
theorem dL_law_1734 : decode cL_law 1734 = .ok (.aload_n 2, 1) := by decide +kernel
theorem dL_law_1735 : decode cL_law 1735 = .ok (.invokevirtual 215, 3) := by decide +kernel
theorem dL_law_1738 : decode cL_law 1738 = .ok (.lcmp, 1) := by decide +kernel
theorem dL_law_1739 : decode cL_law 1739 = .ok (.ifCond .eq 5, 3) := by decide +kernel
theorem dL_law_1742 : decode cL_law 1742 = .ok (.iconst 0, 1) := by decide +kernel
theorem dL_law_1743 : decode cL_law 1743 = .ok (.ireturn, 1) := by decide +kernel
theorem dL_law_1744 : decode cL_law 1744 = .ok (.iinc 3 6, 3) := by decide +kernel
theorem dL_law_1747 : decode cL_law 1747 = .ok (.goto (-1729), 3) := by decide +kernel
theorem dL_law_1750 : decode cL_law 1750 = .ok (.iconst 1, 1) := by decide +kernel
theorem dL_law_1751 : decode cL_law 1751 = .ok (.ireturn, 1) := by decide +kernel
