theorem dX11_keep_61 : decode cX11_keep 61 = .ok (.iinc 2 1, 3) := by decide +kernel
theorem dX11_keep_64 : decode cX11_keep 64 = .ok (.goto (-49), 3) := by decide +kernel
theorem dX11_keep_67 : decode cX11_keep 67 = .ok (.return_, 1) := by decide +kernel
theorem dX11_take_0 : decode cX11_take 0 = .ok (.iload_n 1, 1) := by decide +kernel
theorem dX11_take_1 : decode cX11_take 1 = .ok (.invokestatic 127, 3) := by decide +kernel
theorem dX11_take_4 : decode cX11_take 4 = .ok (.ifCond .ne 5, 3) := by decide +kernel
theorem dX11_take_7 : decode cX11_take 7 = .ok (.iconst (-1), 1) := by decide +kernel
theorem dX11_take_8 : decode cX11_take 8 = .ok (.ireturn, 1) := by decide +kernel
theorem dX11_take_9 : decode cX11_take 9 = .ok (.aload_n 0, 1) := by decide +kernel
theorem dX11_take_10 : decode cX11_take 10 = .ok (.invokevirtual 123, 3) := by decide +kernel
theorem dX11_take_13 : decode cX11_take 13 = .ok (.bipush (-4), 2) := by decide +kernel
theorem dX11_take_15 : decode cX11_take 15 = .ok (.if_icmp .eq 6, 3) := by decide +kernel
theorem dX11_take_18 : decode cX11_take 18 = .ok (.bipush (-2), 2) := by decide +kernel
theorem dX11_take_20 : decode cX11_take 20 = .ok (.ireturn, 1) := by decide +kernel
theorem dX11_take_21 : decode cX11_take 21 = .ok (.aload_n 0, 1) := by decide +kernel
theorem dX11_take_22 : decode cX11_take 22 = .ok (.iload_n 1, 1) := by decide +kernel
theorem dX11_take_23 : decode cX11_take 23 = .ok (.invokevirtual 130, 3) := by decide +kernel
theorem dX11_take_26 : decode cX11_take 26 = .ok (.aload_n 0, 1) := by decide +kernel
theorem dX11_take_27 : decode cX11_take 27 = .ok (.getfield 7, 3) := by decide +kernel
theorem dX11_take_30 : decode cX11_take 30 = .ok (.iload_n 1, 1) := by decide +kernel
theorem dX11_take_31 : decode cX11_take 31 = .ok (.iaload, 1) := by decide +kernel
theorem dX11_take_32 : decode cX11_take 32 = .ok (.ireturn, 1) := by decide +kernel
theorem dX11_told_0 : decode cX11_told 0 = .ok (.iload_n 1, 1) := by decide +kernel
theorem dX11_told_1 : decode cX11_told 1 = .ok (.invokestatic 127, 3) := by decide +kernel
theorem dX11_told_4 : decode cX11_told 4 = .ok (.ifCond .eq 15, 3) := by decide +kernel
theorem dX11_told_7 : decode cX11_told 7 = .ok (.iload_n 2, 1) := by decide +kernel
theorem dX11_told_8 : decode cX11_told 8 = .ok (.i2l, 1) := by decide +kernel
theorem dX11_told_9 : decode cX11_told 9 = .ok (.lconst 0, 1) := by decide +kernel
theorem dX11_told_10 : decode cX11_told 10 = .ok (.ldc2_w 134, 3) := by decide +kernel
theorem dX11_told_13 : decode cX11_told 13 = .ok (.invokestatic 80, 3) := by decide +kernel
theorem dX11_told_16 : decode cX11_told 16 = .ok (.ifCond .ne 6, 3) := by decide +kernel
theorem dX11_told_19 : decode cX11_told 19 = .ok (.ldc 136, 2) := by decide +kernel
theorem dX11_told_21 : decode cX11_told 21 = .ok (.ireturn, 1) := by decide +kernel
theorem dX11_told_22 : decode cX11_told 22 = .ok (.iload_n 2, 1) := by decide +kernel
theorem dX11_told_23 : decode cX11_told 23 = .ok (.ifCond .ne 10, 3) := by decide +kernel
theorem dX11_told_26 : decode cX11_told 26 = .ok (.aload_n 0, 1) := by decide +kernel
theorem dX11_told_27 : decode cX11_told 27 = .ok (.getfield 7, 3) := by decide +kernel
theorem dX11_told_30 : decode cX11_told 30 = .ok (.iload_n 1, 1) := by decide +kernel
theorem dX11_told_31 : decode cX11_told 31 = .ok (.iaload, 1) := by decide +kernel
theorem dX11_told_32 : decode cX11_told 32 = .ok (.ireturn, 1) := by decide +kernel
theorem dX11_told_33 : decode cX11_told 33 = .ok (.iload_n 2, 1) := by decide +kernel
theorem dX11_told_34 : decode cX11_told 34 = .ok (.iconst 1, 1) := by decide +kernel
theorem dX11_told_35 : decode cX11_told 35 = .ok (.if_icmp .ne 39, 3) := by decide +kernel
theorem dX11_told_38 : decode cX11_told 38 = .ok (.iload_n 3, 1) := by decide +kernel
theorem dX11_told_39 : decode cX11_told 39 = .ok (.i2l, 1) := by decide +kernel
theorem dX11_told_40 : decode cX11_told 40 = .ok (.lconst 1, 1) := by decide +kernel
theorem dX11_told_41 : decode cX11_told 41 = .ok (.aload_n 0, 1) := by decide +kernel
theorem dX11_told_42 : decode cX11_told 42 = .ok (.getfield 7, 3) := by decide +kernel
theorem dX11_told_45 : decode cX11_told 45 = .ok (.iload_n 1, 1) := by decide +kernel
theorem dX11_told_46 : decode cX11_told 46 = .ok (.iaload, 1) := by decide +kernel
theorem dX11_told_47 : decode cX11_told 47 = .ok (.i2l, 1) := by decide +kernel
theorem dX11_told_48 : decode cX11_told 48 = .ok (.invokestatic 80, 3) := by decide +kernel
theorem dX11_told_51 : decode cX11_told 51 = .ok (.ifCond .eq 20, 3) := by decide +kernel
theorem dX11_told_54 : decode cX11_told 54 = .ok (.aload_n 0, 1) := by decide +kernel
theorem dX11_told_55 : decode cX11_told 55 = .ok (.getfield 13, 3) := by decide +kernel
theorem dX11_told_58 : decode cX11_told 58 = .ok (.bipush 6, 2) := by decide +kernel
theorem dX11_told_60 : decode cX11_told 60 = .ok (.iload_n 1, 1) := by decide +kernel
theorem dX11_told_61 : decode cX11_told 61 = .ok (.imul, 1) := by decide +kernel
theorem dX11_told_62 : decode cX11_told 62 = .ok (.iload_n 3, 1) := by decide +kernel
theorem dX11_told_63 : decode cX11_told 63 = .ok (.iadd, 1) := by decide +kernel
theorem dX11_told_64 : decode cX11_told 64 = .ok (.iconst 1, 1) := by decide +kernel
theorem dX11_told_65 : decode cX11_told 65 = .ok (.isub, 1) := by decide +kernel
theorem dX11_told_66 : decode cX11_told 66 = .ok (.laload, 1) := by decide +kernel
theorem dX11_told_67 : decode cX11_told 67 = .ok (.l2i, 1) := by decide +kernel
theorem dX11_told_68 : decode cX11_told 68 = .ok (.goto 5, 3) := by decide +kernel
theorem dX11_told_71 : decode cX11_told 71 = .ok (.ldc 136, 2) := by decide +kernel
theorem dX11_told_73 : decode cX11_told 73 = .ok (.ireturn, 1) := by decide +kernel
theorem dX11_told_74 : decode cX11_told 74 = .ok (.iload_n 3, 1) := by decide +kernel
theorem dX11_told_75 : decode cX11_told 75 = .ok (.i2l, 1) := by decide +kernel
theorem dX11_told_76 : decode cX11_told 76 = .ok (.lconst 0, 1) := by decide +kernel
theorem dX11_told_77 : decode cX11_told 77 = .ok (.aload_n 0, 1) := by decide +kernel
theorem dX11_told_78 : decode cX11_told 78 = .ok (.getfield 7, 3) := by decide +kernel
theorem dX11_told_81 : decode cX11_told 81 = .ok (.iload_n 1, 1) := by decide +kernel
theorem dX11_told_82 : decode cX11_told 82 = .ok (.iaload, 1) := by decide +kernel
theorem dX11_told_83 : decode cX11_told 83 = .ok (.iconst 1, 1) := by decide +kernel
theorem dX11_told_84 : decode cX11_told 84 = .ok (.isub, 1) := by decide +kernel
theorem dX11_told_85 : decode cX11_told 85 = .ok (.i2l, 1) := by decide +kernel
theorem dX11_told_86 : decode cX11_told 86 = .ok (.invokestatic 80, 3) := by decide +kernel
theorem dX11_told_89 : decode cX11_told 89 = .ok (.ifCond .eq 18, 3) := by decide +kernel
theorem dX11_told_92 : decode cX11_told 92 = .ok (.aload_n 0, 1) := by decide +kernel
theorem dX11_told_93 : decode cX11_told 93 = .ok (.getfield 17, 3) := by decide +kernel
theorem dX11_told_96 : decode cX11_told 96 = .ok (.bipush 6, 2) := by decide +kernel
theorem dX11_told_98 : decode cX11_told 98 = .ok (.iload_n 1, 1) := by decide +kernel
theorem dX11_told_99 : decode cX11_told 99 = .ok (.imul, 1) := by decide +kernel
theorem dX11_told_100 : decode cX11_told 100 = .ok (.iload_n 3, 1) := by decide +kernel
theorem dX11_told_101 : decode cX11_told 101 = .ok (.iadd, 1) := by decide +kernel
theorem dX11_told_102 : decode cX11_told 102 = .ok (.laload, 1) := by decide +kernel
theorem dX11_told_103 : decode cX11_told 103 = .ok (.l2i, 1) := by decide +kernel
theorem dX11_told_104 : decode cX11_told 104 = .ok (.goto 5, 3) := by decide +kernel
theorem dX11_told_107 : decode cX11_told 107 = .ok (.ldc 136, 2) := by decide +kernel
theorem dX11_told_109 : decode cX11_told 109 = .ok (.ireturn, 1) := by decide +kernel
theorem dX11_layExact_0 : decode cX11_layExact 0 = .ok (.aload_n 0, 1) := by decide +kernel
theorem dX11_layExact_1 : decode cX11_layExact 1 = .ok (.iconst 0, 1) := by decide +kernel
theorem dX11_layExact_2 : decode cX11_layExact 2 = .ok (.putfield 137, 3) := by decide +kernel
theorem dX11_layExact_5 : decode cX11_layExact 5 = .ok (.aload_n 0, 1) := by decide +kernel
theorem dX11_layExact_6 : decode cX11_layExact 6 = .ok (.getfield 137, 3) := by decide +kernel
theorem dX11_layExact_9 : decode cX11_layExact 9 = .ok (.iload_n 2, 1) := by decide +kernel
theorem dX11_layExact_10 : decode cX11_layExact 10 = .ok (.if_icmp .gt 203, 3) := by decide +kernel
theorem dX11_layExact_13 : decode cX11_layExact 13 = .ok (.aload_n 0, 1) := by decide +kernel
theorem dX11_layExact_14 : decode cX11_layExact 14 = .ok (.getfield 137, 3) := by decide +kernel
theorem dX11_layExact_17 : decode cX11_layExact 17 = .ok (.aload_n 0, 1) := by decide +kernel
theorem dX11_layExact_18 : decode cX11_layExact 18 = .ok (.getfield 7, 3) := by decide +kernel
theorem dX11_layExact_21 : decode cX11_layExact 21 = .ok (.iload_n 1, 1) := by decide +kernel
theorem dX11_layExact_22 : decode cX11_layExact 22 = .ok (.iaload, 1) := by decide +kernel
theorem dX11_layExact_23 : decode cX11_layExact 23 = .ok (.if_icmp .ge 21, 3) := by decide +kernel
theorem dX11_layExact_26 : decode cX11_layExact 26 = .ok (.aload_n 0, 1) := by decide +kernel
theorem dX11_layExact_27 : decode cX11_layExact 27 = .ok (.getfield 17, 3) := by decide +kernel
theorem dX11_layExact_30 : decode cX11_layExact 30 = .ok (.bipush 6, 2) := by decide +kernel
theorem dX11_layExact_32 : decode cX11_layExact 32 = .ok (.iload_n 1, 1) := by decide +kernel
theorem dX11_layExact_33 : decode cX11_layExact 33 = .ok (.imul, 1) := by decide +kernel
theorem dX11_layExact_34 : decode cX11_layExact 34 = .ok (.aload_n 0, 1) := by decide +kernel
theorem dX11_layExact_35 : decode cX11_layExact 35 = .ok (.getfield 137, 3) := by decide +kernel
theorem dX11_layExact_38 : decode cX11_layExact 38 = .ok (.iadd, 1) := by decide +kernel
theorem dX11_layExact_39 : decode cX11_layExact 39 = .ok (.laload, 1) := by decide +kernel
theorem dX11_layExact_40 : decode cX11_layExact 40 = .ok (.lstore_n 3, 1) := by decide +kernel
theorem dX11_layExact_41 : decode cX11_layExact 41 = .ok (.goto 149, 3) := by decide +kernel
theorem dX11_layExact_44 : decode cX11_layExact 44 = .ok (.lconst 0, 1) := by decide +kernel
theorem dX11_layExact_45 : decode cX11_layExact 45 = .ok (.lstore 5, 2) := by decide +kernel
theorem dX11_layExact_47 : decode cX11_layExact 47 = .ok (.lconst 0, 1) := by decide +kernel
theorem dX11_layExact_48 : decode cX11_layExact 48 = .ok (.lstore 7, 2) := by decide +kernel
theorem dX11_layExact_50 : decode cX11_layExact 50 = .ok (.iconst 1, 1) := by decide +kernel
theorem dX11_layExact_51 : decode cX11_layExact 51 = .ok (.istore 9, 2) := by decide +kernel
theorem dX11_layExact_53 : decode cX11_layExact 53 = .ok (.iload 9, 2) := by decide +kernel
theorem dX11_layExact_55 : decode cX11_layExact 55 = .ok (.aload_n 0, 1) := by decide +kernel
theorem dX11_layExact_56 : decode cX11_layExact 56 = .ok (.getfield 7, 3) := by decide +kernel
theorem dX11_layExact_59 : decode cX11_layExact 59 = .ok (.iload_n 1, 1) := by decide +kernel
theorem dX11_layExact_60 : decode cX11_layExact 60 = .ok (.iaload, 1) := by decide +kernel
theorem dX11_layExact_61 : decode cX11_layExact 61 = .ok (.if_icmp .gt 67, 3) := by decide +kernel
theorem dX11_layExact_64 : decode cX11_layExact 64 = .ok (.aload_n 0, 1) := by decide +kernel
theorem dX11_layExact_65 : decode cX11_layExact 65 = .ok (.getfield 13, 3) := by decide +kernel
theorem dX11_layExact_68 : decode cX11_layExact 68 = .ok (.bipush 6, 2) := by decide +kernel
theorem dX11_layExact_70 : decode cX11_layExact 70 = .ok (.iload_n 1, 1) := by decide +kernel
theorem dX11_layExact_71 : decode cX11_layExact 71 = .ok (.imul, 1) := by decide +kernel
theorem dX11_layExact_72 : decode cX11_layExact 72 = .ok (.iload 9, 2) := by decide +kernel
theorem dX11_layExact_74 : decode cX11_layExact 74 = .ok (.iadd, 1) := by decide +kernel
theorem dX11_layExact_75 : decode cX11_layExact 75 = .ok (.iconst 1, 1) := by decide +kernel
theorem dX11_layExact_76 : decode cX11_layExact 76 = .ok (.isub, 1) := by decide +kernel
theorem dX11_layExact_77 : decode cX11_layExact 77 = .ok (.laload, 1) := by decide +kernel
theorem dX11_layExact_78 : decode cX11_layExact 78 = .ok (.lstore 10, 2) := by decide +kernel
theorem dX11_layExact_80 : decode cX11_layExact 80 = .ok (.aload_n 0, 1) := by decide +kernel
theorem dX11_layExact_81 : decode cX11_layExact 81 = .ok (.getfield 30, 3) := by decide +kernel
theorem dX11_layExact_84 : decode cX11_layExact 84 = .ok (.aload_n 0, 1) := by decide +kernel
theorem dX11_layExact_85 : decode cX11_layExact 85 = .ok (.getfield 137, 3) := by decide +kernel
theorem dX11_layExact_88 : decode cX11_layExact 88 = .ok (.iload 9, 2) := by decide +kernel
theorem dX11_layExact_90 : decode cX11_layExact 90 = .ok (.isub, 1) := by decide +kernel
theorem dX11_layExact_91 : decode cX11_layExact 91 = .ok (.laload, 1) := by decide +kernel
theorem dX11_layExact_92 : decode cX11_layExact 92 = .ok (.lstore 12, 2) := by decide +kernel
theorem dX11_layExact_94 : decode cX11_layExact 94 = .ok (.lload 5, 2) := by decide +kernel
theorem dX11_layExact_96 : decode cX11_layExact 96 = .ok (.lload 10, 2) := by decide +kernel
theorem dX11_layExact_98 : decode cX11_layExact 98 = .ok (.lload 12, 2) := by decide +kernel
theorem dX11_layExact_100 : decode cX11_layExact 100 = .ok (.ldc2_w 140, 3) := by decide +kernel
theorem dX11_layExact_103 : decode cX11_layExact 103 = .ok (.ldiv, 1) := by decide +kernel
theorem dX11_layExact_104 : decode cX11_layExact 104 = .ok (.lmul, 1) := by decide +kernel
theorem dX11_layExact_105 : decode cX11_layExact 105 = .ok (.ladd, 1) := by decide +kernel
theorem dX11_layExact_106 : decode cX11_layExact 106 = .ok (.lstore 5, 2) := by decide +kernel
theorem dX11_layExact_108 : decode cX11_layExact 108 = .ok (.lload 7, 2) := by decide +kernel
theorem dX11_layExact_110 : decode cX11_layExact 110 = .ok (.lload 10, 2) := by decide +kernel
theorem dX11_layExact_112 : decode cX11_layExact 112 = .ok (.lload 12, 2) := by decide +kernel
theorem dX11_layExact_114 : decode cX11_layExact 114 = .ok (.ldc2_w 140, 3) := by decide +kernel
theorem dX11_layExact_117 : decode cX11_layExact 117 = .ok (.lrem, 1) := by decide +kernel
theorem dX11_layExact_118 : decode cX11_layExact 118 = .ok (.lmul, 1) := by decide +kernel
theorem dX11_layExact_119 : decode cX11_layExact 119 = .ok (.ladd, 1) := by decide +kernel
theorem dX11_layExact_120 : decode cX11_layExact 120 = .ok (.lstore 7, 2) := by decide +kernel
theorem dX11_layExact_122 : decode cX11_layExact 122 = .ok (.iinc 9 1, 3) := by decide +kernel
theorem dX11_layExact_125 : decode cX11_layExact 125 = .ok (.goto (-72), 3) := by decide +kernel
theorem dX11_layExact_128 : decode cX11_layExact 128 = .ok (.lload 5, 2) := by decide +kernel
theorem dX11_layExact_130 : decode cX11_layExact 130 = .ok (.lload 7, 2) := by decide +kernel
theorem dX11_layExact_132 : decode cX11_layExact 132 = .ok (.ldc2_w 140, 3) := by decide +kernel
theorem dX11_layExact_135 : decode cX11_layExact 135 = .ok (.ldiv, 1) := by decide +kernel
theorem dX11_layExact_136 : decode cX11_layExact 136 = .ok (.ladd, 1) := by decide +kernel
theorem dX11_layExact_137 : decode cX11_layExact 137 = .ok (.lstore 5, 2) := by decide +kernel
theorem dX11_layExact_139 : decode cX11_layExact 139 = .ok (.lload 7, 2) := by decide +kernel
theorem dX11_layExact_141 : decode cX11_layExact 141 = .ok (.ldc2_w 140, 3) := by decide +kernel
theorem dX11_layExact_144 : decode cX11_layExact 144 = .ok (.lrem, 1) := by decide +kernel
theorem dX11_layExact_145 : decode cX11_layExact 145 = .ok (.lstore 7, 2) := by decide +kernel
theorem dX11_layExact_147 : decode cX11_layExact 147 = .ok (.lload 5, 2) := by decide +kernel
theorem dX11_layExact_149 : decode cX11_layExact 149 = .ok (.invokestatic 84, 3) := by decide +kernel
theorem dX11_layExact_152 : decode cX11_layExact 152 = .ok (.ldc2_w 142, 3) := by decide +kernel
theorem dX11_layExact_155 : decode cX11_layExact 155 = .ok (.lcmp, 1) := by decide +kernel
theorem dX11_layExact_156 : decode cX11_layExact 156 = .ok (.ifCond .le 8, 3) := by decide +kernel
theorem dX11_layExact_159 : decode cX11_layExact 159 = .ok (.aload_n 0, 1) := by decide +kernel
theorem dX11_layExact_160 : decode cX11_layExact 160 = .ok (.getfield 137, 3) := by decide +kernel
theorem dX11_layExact_163 : decode cX11_layExact 163 = .ok (.ireturn, 1) := by decide +kernel
theorem dX11_layExact_164 : decode cX11_layExact 164 = .ok (.lload 5, 2) := by decide +kernel
theorem dX11_layExact_166 : decode cX11_layExact 166 = .ok (.ldc2_w 140, 3) := by decide +kernel
theorem dX11_layExact_169 : decode cX11_layExact 169 = .ok (.lmul, 1) := by decide +kernel
theorem dX11_layExact_170 : decode cX11_layExact 170 = .ok (.lload 7, 2) := by decide +kernel
theorem dX11_layExact_172 : decode cX11_layExact 172 = .ok (.ladd, 1) := by decide +kernel
theorem dX11_layExact_173 : decode cX11_layExact 173 = .ok (.lstore_n 3, 1) := by decide +kernel
theorem dX11_layExact_174 : decode cX11_layExact 174 = .ok (.lload_n 3, 1) := by decide +kernel
theorem dX11_layExact_175 : decode cX11_layExact 175 = .ok (.invokestatic 84, 3) := by decide +kernel
theorem dX11_layExact_178 : decode cX11_layExact 178 = .ok (.ldc2_w 144, 3) := by decide +kernel
theorem dX11_layExact_181 : decode cX11_layExact 181 = .ok (.lcmp, 1) := by decide +kernel
theorem dX11_layExact_182 : decode cX11_layExact 182 = .ok (.ifCond .le 8, 3) := by decide +kernel
theorem dX11_layExact_185 : decode cX11_layExact 185 = .ok (.aload_n 0, 1) := by decide +kernel
theorem dX11_layExact_186 : decode cX11_layExact 186 = .ok (.getfield 137, 3) := by decide +kernel
theorem dX11_layExact_189 : decode cX11_layExact 189 = .ok (.ireturn, 1) := by decide +kernel
theorem dX11_layExact_190 : decode cX11_layExact 190 = .ok (.aload_n 0, 1) := by decide +kernel
theorem dX11_layExact_191 : decode cX11_layExact 191 = .ok (.getfield 30, 3) := by decide +kernel
theorem dX11_layExact_194 : decode cX11_layExact 194 = .ok (.aload_n 0, 1) := by decide +kernel
theorem dX11_layExact_195 : decode cX11_layExact 195 = .ok (.getfield 137, 3) := by decide +kernel
theorem dX11_layExact_198 : decode cX11_layExact 198 = .ok (.lload_n 3, 1) := by decide +kernel
theorem dX11_layExact_199 : decode cX11_layExact 199 = .ok (.lastore, 1) := by decide +kernel
theorem dX11_layExact_200 : decode cX11_layExact 200 = .ok (.aload_n 0, 1) := by decide +kernel
theorem dX11_layExact_201 : decode cX11_layExact 201 = .ok (.dup, 1) := by decide +kernel
theorem dX11_layExact_202 : decode cX11_layExact 202 = .ok (.getfield 137, 3) := by decide +kernel
theorem dX11_layExact_205 : decode cX11_layExact 205 = .ok (.iconst 1, 1) := by decide +kernel
theorem dX11_layExact_206 : decode cX11_layExact 206 = .ok (.iadd, 1) := by decide +kernel
theorem dX11_layExact_207 : decode cX11_layExact 207 = .ok (.putfield 137, 3) := by decide +kernel
theorem dX11_layExact_210 : decode cX11_layExact 210 = .ok (.goto (-205), 3) := by decide +kernel
theorem dX11_layExact_213 : decode cX11_layExact 213 = .ok (.aload_n 0, 1) := by decide +kernel
theorem dX11_layExact_214 : decode cX11_layExact 214 = .ok (.getfield 137, 3) := by decide +kernel
theorem dX11_layExact_217 : decode cX11_layExact 217 = .ok (.ireturn, 1) := by decide +kernel
theorem dX11_exact_0 : decode cX11_exact 0 = .ok (.iload_n 1, 1) := by decide +kernel
theorem dX11_exact_1 : decode cX11_exact 1 = .ok (.invokestatic 127, 3) := by decide +kernel
theorem dX11_exact_4 : decode cX11_exact 4 = .ok (.ifCond .eq 15, 3) := by decide +kernel
theorem dX11_exact_7 : decode cX11_exact 7 = .ok (.iload_n 2, 1) := by decide +kernel
theorem dX11_exact_8 : decode cX11_exact 8 = .ok (.i2l, 1) := by decide +kernel
theorem dX11_exact_9 : decode cX11_exact 9 = .ok (.lconst 0, 1) := by decide +kernel
theorem dX11_exact_10 : decode cX11_exact 10 = .ok (.ldc2_w 146, 3) := by decide +kernel
theorem dX11_exact_13 : decode cX11_exact 13 = .ok (.invokestatic 80, 3) := by decide +kernel
theorem dX11_exact_16 : decode cX11_exact 16 = .ok (.ifCond .ne 7, 3) := by decide +kernel
theorem dX11_exact_19 : decode cX11_exact 19 = .ok (.ldc2_w 148, 3) := by decide +kernel
theorem dX11_exact_22 : decode cX11_exact 22 = .ok (.lreturn, 1) := by decide +kernel
theorem dX11_exact_23 : decode cX11_exact 23 = .ok (.aload_n 0, 1) := by decide +kernel
theorem dX11_exact_24 : decode cX11_exact 24 = .ok (.iload_n 1, 1) := by decide +kernel
theorem dX11_exact_25 : decode cX11_exact 25 = .ok (.iload_n 2, 1) := by decide +kernel
theorem dX11_exact_26 : decode cX11_exact 26 = .ok (.invokevirtual 150, 3) := by decide +kernel
theorem dX11_exact_29 : decode cX11_exact 29 = .ok (.iload_n 2, 1) := by decide +kernel
theorem dX11_exact_30 : decode cX11_exact 30 = .ok (.if_icmp .le 12, 3) := by decide +kernel
theorem dX11_exact_33 : decode cX11_exact 33 = .ok (.aload_n 0, 1) := by decide +kernel
theorem dX11_exact_34 : decode cX11_exact 34 = .ok (.getfield 30, 3) := by decide +kernel
theorem dX11_exact_37 : decode cX11_exact 37 = .ok (.iload_n 2, 1) := by decide +kernel
theorem dX11_exact_38 : decode cX11_exact 38 = .ok (.laload, 1) := by decide +kernel
theorem dX11_exact_39 : decode cX11_exact 39 = .ok (.goto 6, 3) := by decide +kernel
theorem dX11_exact_42 : decode cX11_exact 42 = .ok (.ldc2_w 154, 3) := by decide +kernel
theorem dX11_exact_45 : decode cX11_exact 45 = .ok (.lreturn, 1) := by decide +kernel
theorem dX11_times_0 : decode cX11_times 0 = .ok (.aload_n 0, 1) := by decide +kernel
theorem dX11_times_1 : decode cX11_times 1 = .ok (.getfield 7, 3) := by decide +kernel
theorem dX11_times_4 : decode cX11_times 4 = .ok (.iload_n 3, 1) := by decide +kernel
theorem dX11_times_5 : decode cX11_times 5 = .ok (.iaload, 1) := by decide +kernel
theorem dX11_times_6 : decode cX11_times 6 = .ok (.istore 6, 2) := by decide +kernel
theorem dX11_times_8 : decode cX11_times 8 = .ok (.iconst 0, 1) := by decide +kernel
theorem dX11_times_9 : decode cX11_times 9 = .ok (.istore 7, 2) := by decide +kernel
theorem dX11_times_11 : decode cX11_times 11 = .ok (.iload 7, 2) := by decide +kernel
theorem dX11_times_13 : decode cX11_times 13 = .ok (.bipush 12, 2) := by decide +kernel
theorem dX11_times_15 : decode cX11_times 15 = .ok (.if_icmp .ge 17, 3) := by decide +kernel
theorem dX11_times_18 : decode cX11_times 18 = .ok (.aload_n 0, 1) := by decide +kernel
theorem dX11_times_19 : decode cX11_times 19 = .ok (.getfield 39, 3) := by decide +kernel
theorem dX11_times_22 : decode cX11_times 22 = .ok (.iload 7, 2) := by decide +kernel
theorem dX11_times_24 : decode cX11_times 24 = .ok (.lconst 0, 1) := by decide +kernel
theorem dX11_times_25 : decode cX11_times 25 = .ok (.lastore, 1) := by decide +kernel
theorem dX11_times_26 : decode cX11_times 26 = .ok (.iinc 7 1, 3) := by decide +kernel
theorem dX11_times_29 : decode cX11_times 29 = .ok (.goto (-18), 3) := by decide +kernel
theorem dX11_times_32 : decode cX11_times 32 = .ok (.iconst 0, 1) := by decide +kernel
theorem dX11_times_33 : decode cX11_times 33 = .ok (.istore 7, 2) := by decide +kernel
theorem dX11_times_35 : decode cX11_times 35 = .ok (.iload 7, 2) := by decide +kernel
theorem dX11_times_37 : decode cX11_times 37 = .ok (.iload 6, 2) := by decide +kernel
theorem dX11_times_39 : decode cX11_times 39 = .ok (.if_icmp .ge 58, 3) := by decide +kernel
theorem dX11_times_42 : decode cX11_times 42 = .ok (.iconst 0, 1) := by decide +kernel
theorem dX11_times_43 : decode cX11_times 43 = .ok (.istore 8, 2) := by decide +kernel
theorem dX11_times_45 : decode cX11_times 45 = .ok (.iload 8, 2) := by decide +kernel
theorem dX11_times_47 : decode cX11_times 47 = .ok (.iload 6, 2) := by decide +kernel
theorem dX11_times_49 : decode cX11_times 49 = .ok (.if_icmp .ge 42, 3) := by decide +kernel
theorem dX11_times_52 : decode cX11_times 52 = .ok (.aload_n 0, 1) := by decide +kernel
theorem dX11_times_53 : decode cX11_times 53 = .ok (.getfield 39, 3) := by decide +kernel
theorem dX11_times_56 : decode cX11_times 56 = .ok (.iload 7, 2) := by decide +kernel
theorem dX11_times_58 : decode cX11_times 58 = .ok (.iload 8, 2) := by decide +kernel
theorem dX11_times_60 : decode cX11_times 60 = .ok (.iadd, 1) := by decide +kernel
theorem dX11_times_61 : decode cX11_times 61 = .ok (.aload_n 0, 1) := by decide +kernel
theorem dX11_times_62 : decode cX11_times 62 = .ok (.getfield 39, 3) := by decide +kernel
theorem dX11_times_65 : decode cX11_times 65 = .ok (.iload 7, 2) := by decide +kernel
theorem dX11_times_67 : decode cX11_times 67 = .ok (.iload 8, 2) := by decide +kernel
theorem dX11_times_69 : decode cX11_times 69 = .ok (.iadd, 1) := by decide +kernel
theorem dX11_times_70 : decode cX11_times 70 = .ok (.laload, 1) := by decide +kernel
theorem dX11_times_71 : decode cX11_times 71 = .ok (.aload_n 1, 1) := by decide +kernel
theorem dX11_times_72 : decode cX11_times 72 = .ok (.iload 7, 2) := by decide +kernel
theorem dX11_times_74 : decode cX11_times 74 = .ok (.laload, 1) := by decide +kernel
theorem dX11_times_75 : decode cX11_times 75 = .ok (.aload_n 2, 1) := by decide +kernel
theorem dX11_times_76 : decode cX11_times 76 = .ok (.iload 8, 2) := by decide +kernel
theorem dX11_times_78 : decode cX11_times 78 = .ok (.laload, 1) := by decide +kernel
theorem dX11_times_79 : decode cX11_times 79 = .ok (.lmul, 1) := by decide +kernel
theorem dX11_times_80 : decode cX11_times 80 = .ok (.ladd, 1) := by decide +kernel
theorem dX11_times_81 : decode cX11_times 81 = .ok (.lload 4, 2) := by decide +kernel
theorem dX11_times_83 : decode cX11_times 83 = .ok (.lrem, 1) := by decide +kernel
theorem dX11_times_84 : decode cX11_times 84 = .ok (.lastore, 1) := by decide +kernel
theorem dX11_times_85 : decode cX11_times 85 = .ok (.iinc 8 1, 3) := by decide +kernel
theorem dX11_times_88 : decode cX11_times 88 = .ok (.goto (-43), 3) := by decide +kernel
theorem dX11_times_91 : decode cX11_times 91 = .ok (.iinc 7 1, 3) := by decide +kernel
theorem dX11_times_94 : decode cX11_times 94 = .ok (.goto (-59), 3) := by decide +kernel
theorem dX11_times_97 : decode cX11_times 97 = .ok (.iconst 2, 1) := by decide +kernel
theorem dX11_times_98 : decode cX11_times 98 = .ok (.iload 6, 2) := by decide +kernel
theorem dX11_times_100 : decode cX11_times 100 = .ok (.imul, 1) := by decide +kernel
theorem dX11_times_101 : decode cX11_times 101 = .ok (.iconst 2, 1) := by decide +kernel
theorem dX11_times_102 : decode cX11_times 102 = .ok (.isub, 1) := by decide +kernel
theorem dX11_times_103 : decode cX11_times 103 = .ok (.istore 7, 2) := by decide +kernel
theorem dX11_times_105 : decode cX11_times 105 = .ok (.iload 7, 2) := by decide +kernel
theorem dX11_times_107 : decode cX11_times 107 = .ok (.iload 6, 2) := by decide +kernel
theorem dX11_times_109 : decode cX11_times 109 = .ok (.if_icmp .lt 76, 3) := by decide +kernel
theorem dX11_times_112 : decode cX11_times 112 = .ok (.iconst 1, 1) := by decide +kernel
theorem dX11_times_113 : decode cX11_times 113 = .ok (.istore 8, 2) := by decide +kernel
theorem dX11_times_115 : decode cX11_times 115 = .ok (.iload 8, 2) := by decide +kernel
theorem dX11_times_117 : decode cX11_times 117 = .ok (.iload 6, 2) := by decide +kernel
theorem dX11_times_119 : decode cX11_times 119 = .ok (.if_icmp .gt 60, 3) := by decide +kernel
theorem dX11_times_122 : decode cX11_times 122 = .ok (.aload_n 0, 1) := by decide +kernel
theorem dX11_times_123 : decode cX11_times 123 = .ok (.getfield 39, 3) := by decide +kernel
theorem dX11_times_126 : decode cX11_times 126 = .ok (.iload 7, 2) := by decide +kernel
theorem dX11_times_128 : decode cX11_times 128 = .ok (.iload 8, 2) := by decide +kernel
theorem dX11_times_130 : decode cX11_times 130 = .ok (.isub, 1) := by decide +kernel
theorem dX11_times_131 : decode cX11_times 131 = .ok (.aload_n 0, 1) := by decide +kernel
theorem dX11_times_132 : decode cX11_times 132 = .ok (.getfield 39, 3) := by decide +kernel
theorem dX11_times_135 : decode cX11_times 135 = .ok (.iload 7, 2) := by decide +kernel
theorem dX11_times_137 : decode cX11_times 137 = .ok (.iload 8, 2) := by decide +kernel
theorem dX11_times_139 : decode cX11_times 139 = .ok (.isub, 1) := by decide +kernel
theorem dX11_times_140 : decode cX11_times 140 = .ok (.laload, 1) := by decide +kernel
theorem dX11_times_141 : decode cX11_times 141 = .ok (.aload_n 0, 1) := by decide +kernel
theorem dX11_times_142 : decode cX11_times 142 = .ok (.getfield 39, 3) := by decide +kernel
theorem dX11_times_145 : decode cX11_times 145 = .ok (.iload 7, 2) := by decide +kernel
theorem dX11_times_147 : decode cX11_times 147 = .ok (.laload, 1) := by decide +kernel
theorem dX11_times_148 : decode cX11_times 148 = .ok (.aload_n 0, 1) := by decide +kernel
theorem dX11_times_149 : decode cX11_times 149 = .ok (.getfield 13, 3) := by decide +kernel
theorem dX11_times_152 : decode cX11_times 152 = .ok (.bipush 6, 2) := by decide +kernel
theorem dX11_times_154 : decode cX11_times 154 = .ok (.iload_n 3, 1) := by decide +kernel
theorem dX11_times_155 : decode cX11_times 155 = .ok (.imul, 1) := by decide +kernel
theorem dX11_times_156 : decode cX11_times 156 = .ok (.iload 8, 2) := by decide +kernel
theorem dX11_times_158 : decode cX11_times 158 = .ok (.iadd, 1) := by decide +kernel
theorem dX11_times_159 : decode cX11_times 159 = .ok (.iconst 1, 1) := by decide +kernel
theorem dX11_times_160 : decode cX11_times 160 = .ok (.isub, 1) := by decide +kernel
theorem dX11_times_161 : decode cX11_times 161 = .ok (.laload, 1) := by decide +kernel
theorem dX11_times_162 : decode cX11_times 162 = .ok (.lload 4, 2) := by decide +kernel
theorem dX11_times_164 : decode cX11_times 164 = .ok (.invokestatic 156, 3) := by decide +kernel
theorem dX11_times_167 : decode cX11_times 167 = .ok (.lmul, 1) := by decide +kernel
theorem dX11_times_168 : decode cX11_times 168 = .ok (.ladd, 1) := by decide +kernel
theorem dX11_times_169 : decode cX11_times 169 = .ok (.lload 4, 2) := by decide +kernel
theorem dX11_times_171 : decode cX11_times 171 = .ok (.lrem, 1) := by decide +kernel
theorem dX11_times_172 : decode cX11_times 172 = .ok (.lastore, 1) := by decide +kernel
theorem dX11_times_173 : decode cX11_times 173 = .ok (.iinc 8 1, 3) := by decide +kernel
theorem dX11_times_176 : decode cX11_times 176 = .ok (.goto (-61), 3) := by decide +kernel
theorem dX11_times_179 : decode cX11_times 179 = .ok (.iinc 7 (-1), 3) := by decide +kernel
theorem dX11_times_182 : decode cX11_times 182 = .ok (.goto (-77), 3) := by decide +kernel
theorem dX11_times_185 : decode cX11_times 185 = .ok (.iconst 0, 1) := by decide +kernel
theorem dX11_times_186 : decode cX11_times 186 = .ok (.istore 7, 2) := by decide +kernel
theorem dX11_times_188 : decode cX11_times 188 = .ok (.iload 7, 2) := by decide +kernel
theorem dX11_times_190 : decode cX11_times 190 = .ok (.iload 6, 2) := by decide +kernel
theorem dX11_times_192 : decode cX11_times 192 = .ok (.if_icmp .ge 20, 3) := by decide +kernel
theorem dX11_times_195 : decode cX11_times 195 = .ok (.aload_n 1, 1) := by decide +kernel
theorem dX11_times_196 : decode cX11_times 196 = .ok (.iload 7, 2) := by decide +kernel
theorem dX11_times_198 : decode cX11_times 198 = .ok (.aload_n 0, 1) := by decide +kernel
theorem dX11_times_199 : decode cX11_times 199 = .ok (.getfield 39, 3) := by decide +kernel
theorem dX11_times_202 : decode cX11_times 202 = .ok (.iload 7, 2) := by decide +kernel
theorem dX11_times_204 : decode cX11_times 204 = .ok (.laload, 1) := by decide +kernel
theorem dX11_times_205 : decode cX11_times 205 = .ok (.lastore, 1) := by decide +kernel
theorem dX11_times_206 : decode cX11_times 206 = .ok (.iinc 7 1, 3) := by decide +kernel
theorem dX11_times_209 : decode cX11_times 209 = .ok (.goto (-21), 3) := by decide +kernel
theorem dX11_times_212 : decode cX11_times 212 = .ok (.return_, 1) := by decide +kernel
theorem dX11_restOf_0 : decode cX11_restOf 0 = .ok (.aload_n 0, 1) := by decide +kernel
theorem dX11_restOf_1 : decode cX11_restOf 1 = .ok (.getfield 7, 3) := by decide +kernel
theorem dX11_restOf_4 : decode cX11_restOf 4 = .ok (.iload_n 1, 1) := by decide +kernel
theorem dX11_restOf_5 : decode cX11_restOf 5 = .ok (.iaload, 1) := by decide +kernel
theorem dX11_restOf_6 : decode cX11_restOf 6 = .ok (.istore 4, 2) := by decide +kernel
theorem dX11_restOf_8 : decode cX11_restOf 8 = .ok (.iload_n 2, 1) := by decide +kernel
theorem dX11_restOf_9 : decode cX11_restOf 9 = .ok (.iload 4, 2) := by decide +kernel
theorem dX11_restOf_11 : decode cX11_restOf 11 = .ok (.if_icmp .ge 21, 3) := by decide +kernel
theorem dX11_restOf_14 : decode cX11_restOf 14 = .ok (.aload_n 0, 1) := by decide +kernel
theorem dX11_restOf_15 : decode cX11_restOf 15 = .ok (.getfield 17, 3) := by decide +kernel
theorem dX11_restOf_18 : decode cX11_restOf 18 = .ok (.bipush 6, 2) := by decide +kernel
theorem dX11_restOf_20 : decode cX11_restOf 20 = .ok (.iload_n 1, 1) := by decide +kernel
theorem dX11_restOf_21 : decode cX11_restOf 21 = .ok (.imul, 1) := by decide +kernel
theorem dX11_restOf_22 : decode cX11_restOf 22 = .ok (.iload_n 2, 1) := by decide +kernel
theorem dX11_restOf_23 : decode cX11_restOf 23 = .ok (.iadd, 1) := by decide +kernel
theorem dX11_restOf_24 : decode cX11_restOf 24 = .ok (.laload, 1) := by decide +kernel
theorem dX11_restOf_25 : decode cX11_restOf 25 = .ok (.iload_n 3, 1) := by decide +kernel
theorem dX11_restOf_26 : decode cX11_restOf 26 = .ok (.i2l, 1) := by decide +kernel
theorem dX11_restOf_27 : decode cX11_restOf 27 = .ok (.invokestatic 156, 3) := by decide +kernel
theorem dX11_restOf_30 : decode cX11_restOf 30 = .ok (.l2i, 1) := by decide +kernel
theorem dX11_restOf_31 : decode cX11_restOf 31 = .ok (.ireturn, 1) := by decide +kernel
theorem dX11_restOf_32 : decode cX11_restOf 32 = .ok (.iconst 0, 1) := by decide +kernel
theorem dX11_restOf_33 : decode cX11_restOf 33 = .ok (.istore 5, 2) := by decide +kernel
theorem dX11_restOf_35 : decode cX11_restOf 35 = .ok (.iload 5, 2) := by decide +kernel
theorem dX11_restOf_37 : decode cX11_restOf 37 = .ok (.bipush 6, 2) := by decide +kernel
theorem dX11_restOf_39 : decode cX11_restOf 39 = .ok (.if_icmp .ge 56, 3) := by decide +kernel
theorem dX11_restOf_42 : decode cX11_restOf 42 = .ok (.aload_n 0, 1) := by decide +kernel
theorem dX11_restOf_43 : decode cX11_restOf 43 = .ok (.getfield 33, 3) := by decide +kernel
theorem dX11_restOf_46 : decode cX11_restOf 46 = .ok (.iload 5, 2) := by decide +kernel
theorem dX11_restOf_48 : decode cX11_restOf 48 = .ok (.iload 5, 2) := by decide +kernel
theorem dX11_restOf_50 : decode cX11_restOf 50 = .ok (.ifCond .ne 10, 3) := by decide +kernel
theorem dX11_restOf_53 : decode cX11_restOf 53 = .ok (.lconst 1, 1) := by decide +kernel
theorem dX11_restOf_54 : decode cX11_restOf 54 = .ok (.iload_n 3, 1) := by decide +kernel
theorem dX11_restOf_55 : decode cX11_restOf 55 = .ok (.i2l, 1) := by decide +kernel
theorem dX11_restOf_56 : decode cX11_restOf 56 = .ok (.lrem, 1) := by decide +kernel
theorem dX11_restOf_57 : decode cX11_restOf 57 = .ok (.goto 4, 3) := by decide +kernel
theorem dX11_restOf_60 : decode cX11_restOf 60 = .ok (.lconst 0, 1) := by decide +kernel
theorem dX11_restOf_61 : decode cX11_restOf 61 = .ok (.lastore, 1) := by decide +kernel
theorem dX11_restOf_62 : decode cX11_restOf 62 = .ok (.aload_n 0, 1) := by decide +kernel
theorem dX11_restOf_63 : decode cX11_restOf 63 = .ok (.getfield 36, 3) := by decide +kernel
theorem dX11_restOf_66 : decode cX11_restOf 66 = .ok (.iload 5, 2) := by decide +kernel
theorem dX11_restOf_68 : decode cX11_restOf 68 = .ok (.iload 5, 2) := by decide +kernel
theorem dX11_restOf_70 : decode cX11_restOf 70 = .ok (.iconst 1, 1) := by decide +kernel
theorem dX11_restOf_71 : decode cX11_restOf 71 = .ok (.if_icmp .ne 16, 3) := by decide +kernel
theorem dX11_restOf_74 : decode cX11_restOf 74 = .ok (.iload 4, 2) := by decide +kernel
theorem dX11_restOf_76 : decode cX11_restOf 76 = .ok (.iconst 1, 1) := by decide +kernel
theorem dX11_restOf_77 : decode cX11_restOf 77 = .ok (.if_icmp .le 10, 3) := by decide +kernel
theorem dX11_restOf_80 : decode cX11_restOf 80 = .ok (.lconst 1, 1) := by decide +kernel
theorem dX11_restOf_81 : decode cX11_restOf 81 = .ok (.iload_n 3, 1) := by decide +kernel
theorem dX11_restOf_82 : decode cX11_restOf 82 = .ok (.i2l, 1) := by decide +kernel
theorem dX11_restOf_83 : decode cX11_restOf 83 = .ok (.lrem, 1) := by decide +kernel
theorem dX11_restOf_84 : decode cX11_restOf 84 = .ok (.goto 4, 3) := by decide +kernel
theorem dX11_restOf_87 : decode cX11_restOf 87 = .ok (.lconst 0, 1) := by decide +kernel
theorem dX11_restOf_88 : decode cX11_restOf 88 = .ok (.lastore, 1) := by decide +kernel
theorem dX11_restOf_89 : decode cX11_restOf 89 = .ok (.iinc 5 1, 3) := by decide +kernel
theorem dX11_restOf_92 : decode cX11_restOf 92 = .ok (.goto (-57), 3) := by decide +kernel
theorem dX11_restOf_95 : decode cX11_restOf 95 = .ok (.iload 4, 2) := by decide +kernel
theorem dX11_restOf_97 : decode cX11_restOf 97 = .ok (.iconst 1, 1) := by decide +kernel
theorem dX11_restOf_98 : decode cX11_restOf 98 = .ok (.if_icmp .ne 23, 3) := by decide +kernel
theorem dX11_restOf_101 : decode cX11_restOf 101 = .ok (.aload_n 0, 1) := by decide +kernel
theorem dX11_restOf_102 : decode cX11_restOf 102 = .ok (.getfield 36, 3) := by decide +kernel
theorem dX11_restOf_105 : decode cX11_restOf 105 = .ok (.iconst 0, 1) := by decide +kernel
theorem dX11_restOf_106 : decode cX11_restOf 106 = .ok (.aload_n 0, 1) := by decide +kernel
theorem dX11_restOf_107 : decode cX11_restOf 107 = .ok (.getfield 13, 3) := by decide +kernel
theorem dX11_restOf_110 : decode cX11_restOf 110 = .ok (.bipush 6, 2) := by decide +kernel
theorem dX11_restOf_112 : decode cX11_restOf 112 = .ok (.iload_n 1, 1) := by decide +kernel
theorem dX11_restOf_113 : decode cX11_restOf 113 = .ok (.imul, 1) := by decide +kernel
theorem dX11_restOf_114 : decode cX11_restOf 114 = .ok (.laload, 1) := by decide +kernel
theorem dX11_restOf_115 : decode cX11_restOf 115 = .ok (.iload_n 3, 1) := by decide +kernel
theorem dX11_restOf_116 : decode cX11_restOf 116 = .ok (.i2l, 1) := by decide +kernel
theorem dX11_restOf_117 : decode cX11_restOf 117 = .ok (.invokestatic 156, 3) := by decide +kernel
theorem dX11_restOf_120 : decode cX11_restOf 120 = .ok (.lastore, 1) := by decide +kernel
theorem dX11_restOf_121 : decode cX11_restOf 121 = .ok (.iload_n 2, 1) := by decide +kernel
theorem dX11_restOf_122 : decode cX11_restOf 122 = .ok (.istore 5, 2) := by decide +kernel
theorem dX11_restOf_124 : decode cX11_restOf 124 = .ok (.iload 5, 2) := by decide +kernel
theorem dX11_restOf_126 : decode cX11_restOf 126 = .ok (.ifCond .le 50, 3) := by decide +kernel
theorem dX11_restOf_129 : decode cX11_restOf 129 = .ok (.iload 5, 2) := by decide +kernel
theorem dX11_restOf_131 : decode cX11_restOf 131 = .ok (.iconst 2, 1) := by decide +kernel
theorem dX11_restOf_132 : decode cX11_restOf 132 = .ok (.irem, 1) := by decide +kernel
theorem dX11_restOf_133 : decode cX11_restOf 133 = .ok (.iconst 1, 1) := by decide +kernel
theorem dX11_restOf_134 : decode cX11_restOf 134 = .ok (.if_icmp .ne 18, 3) := by decide +kernel
theorem dX11_restOf_137 : decode cX11_restOf 137 = .ok (.aload_n 0, 1) := by decide +kernel
theorem dX11_restOf_138 : decode cX11_restOf 138 = .ok (.aload_n 0, 1) := by decide +kernel
theorem dX11_restOf_139 : decode cX11_restOf 139 = .ok (.getfield 33, 3) := by decide +kernel
theorem dX11_restOf_142 : decode cX11_restOf 142 = .ok (.aload_n 0, 1) := by decide +kernel
theorem dX11_restOf_143 : decode cX11_restOf 143 = .ok (.getfield 36, 3) := by decide +kernel
theorem dX11_restOf_146 : decode cX11_restOf 146 = .ok (.iload_n 1, 1) := by decide +kernel
theorem dX11_restOf_147 : decode cX11_restOf 147 = .ok (.iload_n 3, 1) := by decide +kernel
theorem dX11_restOf_148 : decode cX11_restOf 148 = .ok (.i2l, 1) := by decide +kernel
theorem dX11_restOf_149 : decode cX11_restOf 149 = .ok (.invokevirtual 160, 3) := by decide +kernel
theorem dX11_restOf_152 : decode cX11_restOf 152 = .ok (.aload_n 0, 1) := by decide +kernel
theorem dX11_restOf_153 : decode cX11_restOf 153 = .ok (.aload_n 0, 1) := by decide +kernel
theorem dX11_restOf_154 : decode cX11_restOf 154 = .ok (.getfield 36, 3) := by decide +kernel
theorem dX11_restOf_157 : decode cX11_restOf 157 = .ok (.aload_n 0, 1) := by decide +kernel
theorem dX11_restOf_158 : decode cX11_restOf 158 = .ok (.getfield 36, 3) := by decide +kernel
theorem dX11_restOf_161 : decode cX11_restOf 161 = .ok (.iload_n 1, 1) := by decide +kernel
theorem dX11_restOf_162 : decode cX11_restOf 162 = .ok (.iload_n 3, 1) := by decide +kernel
theorem dX11_restOf_163 : decode cX11_restOf 163 = .ok (.i2l, 1) := by decide +kernel
theorem dX11_restOf_164 : decode cX11_restOf 164 = .ok (.invokevirtual 160, 3) := by decide +kernel
theorem dX11_restOf_167 : decode cX11_restOf 167 = .ok (.iload 5, 2) := by decide +kernel
theorem dX11_restOf_169 : decode cX11_restOf 169 = .ok (.iconst 2, 1) := by decide +kernel
theorem dX11_restOf_170 : decode cX11_restOf 170 = .ok (.idiv, 1) := by decide +kernel
theorem dX11_restOf_171 : decode cX11_restOf 171 = .ok (.istore 5, 2) := by decide +kernel
theorem dX11_restOf_173 : decode cX11_restOf 173 = .ok (.goto (-49), 3) := by decide +kernel
theorem dX11_restOf_176 : decode cX11_restOf 176 = .ok (.lconst 0, 1) := by decide +kernel
theorem dX11_restOf_177 : decode cX11_restOf 177 = .ok (.lstore 5, 2) := by decide +kernel
theorem dX11_restOf_179 : decode cX11_restOf 179 = .ok (.iconst 0, 1) := by decide +kernel
theorem dX11_restOf_180 : decode cX11_restOf 180 = .ok (.istore 7, 2) := by decide +kernel
theorem dX11_restOf_182 : decode cX11_restOf 182 = .ok (.iload 7, 2) := by decide +kernel
theorem dX11_restOf_184 : decode cX11_restOf 184 = .ok (.iload 4, 2) := by decide +kernel
theorem dX11_restOf_186 : decode cX11_restOf 186 = .ok (.if_icmp .ge 42, 3) := by decide +kernel
theorem dX11_restOf_189 : decode cX11_restOf 189 = .ok (.lload 5, 2) := by decide +kernel
theorem dX11_restOf_191 : decode cX11_restOf 191 = .ok (.aload_n 0, 1) := by decide +kernel
theorem dX11_restOf_192 : decode cX11_restOf 192 = .ok (.getfield 33, 3) := by decide +kernel
theorem dX11_restOf_195 : decode cX11_restOf 195 = .ok (.iload 7, 2) := by decide +kernel
theorem dX11_restOf_197 : decode cX11_restOf 197 = .ok (.laload, 1) := by decide +kernel
theorem dX11_restOf_198 : decode cX11_restOf 198 = .ok (.aload_n 0, 1) := by decide +kernel
theorem dX11_restOf_199 : decode cX11_restOf 199 = .ok (.getfield 17, 3) := by decide +kernel
theorem dX11_restOf_202 : decode cX11_restOf 202 = .ok (.bipush 6, 2) := by decide +kernel
theorem dX11_restOf_204 : decode cX11_restOf 204 = .ok (.iload_n 1, 1) := by decide +kernel
theorem dX11_restOf_205 : decode cX11_restOf 205 = .ok (.imul, 1) := by decide +kernel
theorem dX11_restOf_206 : decode cX11_restOf 206 = .ok (.iload 7, 2) := by decide +kernel
theorem dX11_restOf_208 : decode cX11_restOf 208 = .ok (.iadd, 1) := by decide +kernel
theorem dX11_restOf_209 : decode cX11_restOf 209 = .ok (.laload, 1) := by decide +kernel
theorem dX11_restOf_210 : decode cX11_restOf 210 = .ok (.iload_n 3, 1) := by decide +kernel
theorem dX11_restOf_211 : decode cX11_restOf 211 = .ok (.i2l, 1) := by decide +kernel
theorem dX11_restOf_212 : decode cX11_restOf 212 = .ok (.invokestatic 156, 3) := by decide +kernel
theorem dX11_restOf_215 : decode cX11_restOf 215 = .ok (.lmul, 1) := by decide +kernel
theorem dX11_restOf_216 : decode cX11_restOf 216 = .ok (.ladd, 1) := by decide +kernel
theorem dX11_restOf_217 : decode cX11_restOf 217 = .ok (.iload_n 3, 1) := by decide +kernel
theorem dX11_restOf_218 : decode cX11_restOf 218 = .ok (.i2l, 1) := by decide +kernel
theorem dX11_restOf_219 : decode cX11_restOf 219 = .ok (.lrem, 1) := by decide +kernel
theorem dX11_restOf_220 : decode cX11_restOf 220 = .ok (.lstore 5, 2) := by decide +kernel
theorem dX11_restOf_222 : decode cX11_restOf 222 = .ok (.iinc 7 1, 3) := by decide +kernel
theorem dX11_restOf_225 : decode cX11_restOf 225 = .ok (.goto (-43), 3) := by decide +kernel
theorem dX11_restOf_228 : decode cX11_restOf 228 = .ok (.lload 5, 2) := by decide +kernel
theorem dX11_restOf_230 : decode cX11_restOf 230 = .ok (.l2i, 1) := by decide +kernel
theorem dX11_restOf_231 : decode cX11_restOf 231 = .ok (.ireturn, 1) := by decide +kernel
theorem dX11_rest_0 : decode cX11_rest 0 = .ok (.iload_n 1, 1) := by decide +kernel
theorem dX11_rest_1 : decode cX11_rest 1 = .ok (.invokestatic 127, 3) := by decide +kernel
theorem dX11_rest_4 : decode cX11_rest 4 = .ok (.ifCond .eq 39, 3) := by decide +kernel
theorem dX11_rest_7 : decode cX11_rest 7 = .ok (.iload_n 2, 1) := by decide +kernel
theorem dX11_rest_8 : decode cX11_rest 8 = .ok (.i2l, 1) := by decide +kernel
theorem dX11_rest_9 : decode cX11_rest 9 = .ok (.lconst 0, 1) := by decide +kernel
theorem dX11_rest_10 : decode cX11_rest 10 = .ok (.ldc2_w 140, 3) := by decide +kernel
theorem dX11_rest_13 : decode cX11_rest 13 = .ok (.invokestatic 80, 3) := by decide +kernel
theorem dX11_rest_16 : decode cX11_rest 16 = .ok (.ifCond .eq 27, 3) := by decide +kernel
theorem dX11_rest_19 : decode cX11_rest 19 = .ok (.iload_n 3, 1) := by decide +kernel
theorem dX11_rest_20 : decode cX11_rest 20 = .ok (.i2l, 1) := by decide +kernel
theorem dX11_rest_21 : decode cX11_rest 21 = .ok (.ldc2_w 134, 3) := by decide +kernel
theorem dX11_rest_24 : decode cX11_rest 24 = .ok (.ldc2_w 121, 3) := by decide +kernel
theorem dX11_rest_27 : decode cX11_rest 27 = .ok (.invokestatic 80, 3) := by decide +kernel
theorem dX11_rest_30 : decode cX11_rest 30 = .ok (.ifCond .eq 13, 3) := by decide +kernel
theorem dX11_rest_33 : decode cX11_rest 33 = .ok (.aload_n 0, 1) := by decide +kernel
theorem dX11_rest_34 : decode cX11_rest 34 = .ok (.iload_n 1, 1) := by decide +kernel
theorem dX11_rest_35 : decode cX11_rest 35 = .ok (.iload_n 2, 1) := by decide +kernel
theorem dX11_rest_36 : decode cX11_rest 36 = .ok (.iload_n 3, 1) := by decide +kernel
theorem dX11_rest_37 : decode cX11_rest 37 = .ok (.invokevirtual 164, 3) := by decide +kernel
theorem dX11_rest_40 : decode cX11_rest 40 = .ok (.goto 4, 3) := by decide +kernel
theorem dX11_rest_43 : decode cX11_rest 43 = .ok (.iconst (-1), 1) := by decide +kernel
theorem dX11_rest_44 : decode cX11_rest 44 = .ok (.ireturn, 1) := by decide +kernel
theorem dX11_begin_0 : decode cX11_begin 0 = .ok (.iconst 0, 1) := by decide +kernel
theorem dX11_begin_1 : decode cX11_begin 1 = .ok (.istore 4, 2) := by decide +kernel
theorem dX11_begin_3 : decode cX11_begin 3 = .ok (.iload 4, 2) := by decide +kernel
theorem dX11_begin_5 : decode cX11_begin 5 = .ok (.aload_n 0, 1) := by decide +kernel
theorem dX11_begin_6 : decode cX11_begin 6 = .ok (.getfield 7, 3) := by decide +kernel
theorem dX11_begin_9 : decode cX11_begin 9 = .ok (.iload_n 2, 1) := by decide +kernel
theorem dX11_begin_10 : decode cX11_begin 10 = .ok (.iaload, 1) := by decide +kernel
theorem dX11_begin_11 : decode cX11_begin 11 = .ok (.if_icmp .ge 30, 3) := by decide +kernel
theorem dX11_begin_14 : decode cX11_begin 14 = .ok (.aload_n 1, 1) := by decide +kernel
theorem dX11_begin_15 : decode cX11_begin 15 = .ok (.iload 4, 2) := by decide +kernel
theorem dX11_begin_17 : decode cX11_begin 17 = .ok (.aload_n 0, 1) := by decide +kernel
theorem dX11_begin_18 : decode cX11_begin 18 = .ok (.getfield 17, 3) := by decide +kernel
theorem dX11_begin_21 : decode cX11_begin 21 = .ok (.bipush 6, 2) := by decide +kernel
theorem dX11_begin_23 : decode cX11_begin 23 = .ok (.iload_n 2, 1) := by decide +kernel
theorem dX11_begin_24 : decode cX11_begin 24 = .ok (.imul, 1) := by decide +kernel
theorem dX11_begin_25 : decode cX11_begin 25 = .ok (.iload 4, 2) := by decide +kernel
theorem dX11_begin_27 : decode cX11_begin 27 = .ok (.iadd, 1) := by decide +kernel
theorem dX11_begin_28 : decode cX11_begin 28 = .ok (.laload, 1) := by decide +kernel
theorem dX11_begin_29 : decode cX11_begin 29 = .ok (.iload_n 3, 1) := by decide +kernel
theorem dX11_begin_30 : decode cX11_begin 30 = .ok (.i2l, 1) := by decide +kernel
theorem dX11_begin_31 : decode cX11_begin 31 = .ok (.invokestatic 156, 3) := by decide +kernel
theorem dX11_begin_34 : decode cX11_begin 34 = .ok (.lastore, 1) := by decide +kernel
theorem dX11_begin_35 : decode cX11_begin 35 = .ok (.iinc 4 1, 3) := by decide +kernel
theorem dX11_begin_38 : decode cX11_begin 38 = .ok (.goto (-35), 3) := by decide +kernel
theorem dX11_begin_41 : decode cX11_begin 41 = .ok (.return_, 1) := by decide +kernel
theorem dX11_go_0 : decode cX11_go 0 = .ok (.aload_n 0, 1) := by decide +kernel
theorem dX11_go_1 : decode cX11_go 1 = .ok (.getfield 7, 3) := by decide +kernel
theorem dX11_go_4 : decode cX11_go 4 = .ok (.iload_n 2, 1) := by decide +kernel
theorem dX11_go_5 : decode cX11_go 5 = .ok (.iaload, 1) := by decide +kernel
theorem dX11_go_6 : decode cX11_go 6 = .ok (.istore 4, 2) := by decide +kernel
theorem dX11_go_8 : decode cX11_go 8 = .ok (.lconst 0, 1) := by decide +kernel
theorem dX11_go_9 : decode cX11_go 9 = .ok (.lstore 5, 2) := by decide +kernel
theorem dX11_go_11 : decode cX11_go 11 = .ok (.iconst 1, 1) := by decide +kernel
theorem dX11_go_12 : decode cX11_go 12 = .ok (.istore 7, 2) := by decide +kernel
theorem dX11_go_14 : decode cX11_go 14 = .ok (.iload 7, 2) := by decide +kernel
theorem dX11_go_16 : decode cX11_go 16 = .ok (.iload 4, 2) := by decide +kernel
theorem dX11_go_18 : decode cX11_go 18 = .ok (.if_icmp .gt 41, 3) := by decide +kernel
theorem dX11_go_21 : decode cX11_go 21 = .ok (.lload 5, 2) := by decide +kernel
theorem dX11_go_23 : decode cX11_go 23 = .ok (.aload_n 0, 1) := by decide +kernel
theorem dX11_go_24 : decode cX11_go 24 = .ok (.getfield 13, 3) := by decide +kernel
theorem dX11_go_27 : decode cX11_go 27 = .ok (.bipush 6, 2) := by decide +kernel
theorem dX11_go_29 : decode cX11_go 29 = .ok (.iload_n 2, 1) := by decide +kernel
theorem dX11_go_30 : decode cX11_go 30 = .ok (.imul, 1) := by decide +kernel
theorem dX11_go_31 : decode cX11_go 31 = .ok (.iload 7, 2) := by decide +kernel
theorem dX11_go_33 : decode cX11_go 33 = .ok (.iadd, 1) := by decide +kernel
theorem dX11_go_34 : decode cX11_go 34 = .ok (.iconst 1, 1) := by decide +kernel
theorem dX11_go_35 : decode cX11_go 35 = .ok (.isub, 1) := by decide +kernel
theorem dX11_go_36 : decode cX11_go 36 = .ok (.laload, 1) := by decide +kernel
theorem dX11_go_37 : decode cX11_go 37 = .ok (.iload_n 3, 1) := by decide +kernel
theorem dX11_go_38 : decode cX11_go 38 = .ok (.i2l, 1) := by decide +kernel
theorem dX11_go_39 : decode cX11_go 39 = .ok (.invokestatic 156, 3) := by decide +kernel
theorem dX11_go_42 : decode cX11_go 42 = .ok (.aload_n 1, 1) := by decide +kernel
theorem dX11_go_43 : decode cX11_go 43 = .ok (.iload 4, 2) := by decide +kernel
theorem dX11_go_45 : decode cX11_go 45 = .ok (.iload 7, 2) := by decide +kernel
theorem dX11_go_47 : decode cX11_go 47 = .ok (.isub, 1) := by decide +kernel
theorem dX11_go_48 : decode cX11_go 48 = .ok (.laload, 1) := by decide +kernel
theorem dX11_go_49 : decode cX11_go 49 = .ok (.lmul, 1) := by decide +kernel
theorem dX11_go_50 : decode cX11_go 50 = .ok (.ladd, 1) := by decide +kernel
theorem dX11_go_51 : decode cX11_go 51 = .ok (.lstore 5, 2) := by decide +kernel
theorem dX11_go_53 : decode cX11_go 53 = .ok (.iinc 7 1, 3) := by decide +kernel
theorem dX11_go_56 : decode cX11_go 56 = .ok (.goto (-42), 3) := by decide +kernel
theorem dX11_go_59 : decode cX11_go 59 = .ok (.iconst 1, 1) := by decide +kernel
theorem dX11_go_60 : decode cX11_go 60 = .ok (.istore 7, 2) := by decide +kernel
theorem dX11_go_62 : decode cX11_go 62 = .ok (.iload 7, 2) := by decide +kernel
theorem dX11_go_64 : decode cX11_go 64 = .ok (.iload 4, 2) := by decide +kernel
theorem dX11_go_66 : decode cX11_go 66 = .ok (.if_icmp .ge 19, 3) := by decide +kernel
theorem dX11_go_69 : decode cX11_go 69 = .ok (.aload_n 1, 1) := by decide +kernel
theorem dX11_go_70 : decode cX11_go 70 = .ok (.iload 7, 2) := by decide +kernel
theorem dX11_go_72 : decode cX11_go 72 = .ok (.iconst 1, 1) := by decide +kernel
theorem dX11_go_73 : decode cX11_go 73 = .ok (.isub, 1) := by decide +kernel
theorem dX11_go_74 : decode cX11_go 74 = .ok (.aload_n 1, 1) := by decide +kernel
theorem dX11_go_75 : decode cX11_go 75 = .ok (.iload 7, 2) := by decide +kernel
theorem dX11_go_77 : decode cX11_go 77 = .ok (.laload, 1) := by decide +kernel
theorem dX11_go_78 : decode cX11_go 78 = .ok (.lastore, 1) := by decide +kernel
theorem dX11_go_79 : decode cX11_go 79 = .ok (.iinc 7 1, 3) := by decide +kernel
theorem dX11_go_82 : decode cX11_go 82 = .ok (.goto (-20), 3) := by decide +kernel
theorem dX11_go_85 : decode cX11_go 85 = .ok (.aload_n 1, 1) := by decide +kernel
theorem dX11_go_86 : decode cX11_go 86 = .ok (.iload 4, 2) := by decide +kernel
theorem dX11_go_88 : decode cX11_go 88 = .ok (.iconst 1, 1) := by decide +kernel
theorem dX11_go_89 : decode cX11_go 89 = .ok (.isub, 1) := by decide +kernel
theorem dX11_go_90 : decode cX11_go 90 = .ok (.lload 5, 2) := by decide +kernel
theorem dX11_go_92 : decode cX11_go 92 = .ok (.iload_n 3, 1) := by decide +kernel
theorem dX11_go_93 : decode cX11_go 93 = .ok (.i2l, 1) := by decide +kernel
theorem dX11_go_94 : decode cX11_go 94 = .ok (.lrem, 1) := by decide +kernel
theorem dX11_go_95 : decode cX11_go 95 = .ok (.lastore, 1) := by decide +kernel
theorem dX11_go_96 : decode cX11_go 96 = .ok (.return_, 1) := by decide +kernel
theorem dX11_areAlike_0 : decode cX11_areAlike 0 = .ok (.iconst 1, 1) := by decide +kernel
theorem dX11_areAlike_1 : decode cX11_areAlike 1 = .ok (.istore_n 2, 1) := by decide +kernel
theorem dX11_areAlike_2 : decode cX11_areAlike 2 = .ok (.iconst 0, 1) := by decide +kernel
theorem dX11_areAlike_3 : decode cX11_areAlike 3 = .ok (.istore_n 3, 1) := by decide +kernel
theorem dX11_areAlike_4 : decode cX11_areAlike 4 = .ok (.iload_n 3, 1) := by decide +kernel
theorem dX11_areAlike_5 : decode cX11_areAlike 5 = .ok (.iload_n 1, 1) := by decide +kernel
theorem dX11_areAlike_6 : decode cX11_areAlike 6 = .ok (.if_icmp .ge 35, 3) := by decide +kernel
theorem dX11_areAlike_9 : decode cX11_areAlike 9 = .ok (.iload_n 2, 1) := by decide +kernel
theorem dX11_areAlike_10 : decode cX11_areAlike 10 = .ok (.ifCond .eq 23, 3) := by decide +kernel
theorem dX11_areAlike_13 : decode cX11_areAlike 13 = .ok (.aload_n 0, 1) := by decide +kernel
theorem dX11_areAlike_14 : decode cX11_areAlike 14 = .ok (.getfield 42, 3) := by decide +kernel
theorem dX11_areAlike_17 : decode cX11_areAlike 17 = .ok (.iload_n 3, 1) := by decide +kernel
theorem dX11_areAlike_18 : decode cX11_areAlike 18 = .ok (.laload, 1) := by decide +kernel
theorem dX11_areAlike_19 : decode cX11_areAlike 19 = .ok (.aload_n 0, 1) := by decide +kernel
theorem dX11_areAlike_20 : decode cX11_areAlike 20 = .ok (.getfield 45, 3) := by decide +kernel
theorem dX11_areAlike_23 : decode cX11_areAlike 23 = .ok (.iload_n 3, 1) := by decide +kernel
theorem dX11_areAlike_24 : decode cX11_areAlike 24 = .ok (.laload, 1) := by decide +kernel
theorem dX11_areAlike_25 : decode cX11_areAlike 25 = .ok (.lcmp, 1) := by decide +kernel
theorem dX11_areAlike_26 : decode cX11_areAlike 26 = .ok (.ifCond .ne 7, 3) := by decide +kernel
theorem dX11_areAlike_29 : decode cX11_areAlike 29 = .ok (.iconst 1, 1) := by decide +kernel
theorem dX11_areAlike_30 : decode cX11_areAlike 30 = .ok (.goto 4, 3) := by decide +kernel
theorem dX11_areAlike_33 : decode cX11_areAlike 33 = .ok (.iconst 0, 1) := by decide +kernel
theorem dX11_areAlike_34 : decode cX11_areAlike 34 = .ok (.istore_n 2, 1) := by decide +kernel
theorem dX11_areAlike_35 : decode cX11_areAlike 35 = .ok (.iinc 3 1, 3) := by decide +kernel
theorem dX11_areAlike_38 : decode cX11_areAlike 38 = .ok (.goto (-34), 3) := by decide +kernel
theorem dX11_areAlike_41 : decode cX11_areAlike 41 = .ok (.iload_n 2, 1) := by decide +kernel
theorem dX11_areAlike_42 : decode cX11_areAlike 42 = .ok (.ireturn, 1) := by decide +kernel
theorem dX11_layRound_0 : decode cX11_layRound 0 = .ok (.aload_n 0, 1) := by decide +kernel
theorem dX11_layRound_1 : decode cX11_layRound 1 = .ok (.aload_n 0, 1) := by decide +kernel
theorem dX11_layRound_2 : decode cX11_layRound 2 = .ok (.getfield 42, 3) := by decide +kernel
theorem dX11_layRound_5 : decode cX11_layRound 5 = .ok (.iload_n 1, 1) := by decide +kernel
theorem dX11_layRound_6 : decode cX11_layRound 6 = .ok (.iload_n 2, 1) := by decide +kernel
theorem dX11_layRound_7 : decode cX11_layRound 7 = .ok (.invokevirtual 168, 3) := by decide +kernel
theorem dX11_layRound_10 : decode cX11_layRound 10 = .ok (.aload_n 0, 1) := by decide +kernel
theorem dX11_layRound_11 : decode cX11_layRound 11 = .ok (.aload_n 0, 1) := by decide +kernel
theorem dX11_layRound_12 : decode cX11_layRound 12 = .ok (.getfield 45, 3) := by decide +kernel
theorem dX11_layRound_15 : decode cX11_layRound 15 = .ok (.iload_n 1, 1) := by decide +kernel
theorem dX11_layRound_16 : decode cX11_layRound 16 = .ok (.iload_n 2, 1) := by decide +kernel
theorem dX11_layRound_17 : decode cX11_layRound 17 = .ok (.invokevirtual 168, 3) := by decide +kernel
theorem dX11_layRound_20 : decode cX11_layRound 20 = .ok (.aload_n 0, 1) := by decide +kernel
theorem dX11_layRound_21 : decode cX11_layRound 21 = .ok (.aload_n 0, 1) := by decide +kernel
theorem dX11_layRound_22 : decode cX11_layRound 22 = .ok (.getfield 45, 3) := by decide +kernel
theorem dX11_layRound_25 : decode cX11_layRound 25 = .ok (.iload_n 1, 1) := by decide +kernel
theorem dX11_layRound_26 : decode cX11_layRound 26 = .ok (.iload_n 2, 1) := by decide +kernel
theorem dX11_layRound_27 : decode cX11_layRound 27 = .ok (.invokevirtual 172, 3) := by decide +kernel
theorem dX11_layRound_30 : decode cX11_layRound 30 = .ok (.iconst 1, 1) := by decide +kernel
theorem dX11_layRound_31 : decode cX11_layRound 31 = .ok (.istore_n 3, 1) := by decide +kernel
theorem dX11_layRound_32 : decode cX11_layRound 32 = .ok (.aload_n 0, 1) := by decide +kernel
theorem dX11_layRound_33 : decode cX11_layRound 33 = .ok (.iconst 1, 1) := by decide +kernel
theorem dX11_layRound_34 : decode cX11_layRound 34 = .ok (.putfield 175, 3) := by decide +kernel
theorem dX11_layRound_37 : decode cX11_layRound 37 = .ok (.aload_n 0, 1) := by decide +kernel
theorem dX11_layRound_38 : decode cX11_layRound 38 = .ok (.aload_n 0, 1) := by decide +kernel
theorem dX11_layRound_39 : decode cX11_layRound 39 = .ok (.getfield 7, 3) := by decide +kernel
theorem dX11_layRound_42 : decode cX11_layRound 42 = .ok (.iload_n 1, 1) := by decide +kernel
theorem dX11_layRound_43 : decode cX11_layRound 43 = .ok (.iaload, 1) := by decide +kernel
theorem dX11_layRound_44 : decode cX11_layRound 44 = .ok (.invokevirtual 178, 3) := by decide +kernel
theorem dX11_layRound_47 : decode cX11_layRound 47 = .ok (.ifCond .ne 81, 3) := by decide +kernel
theorem dX11_layRound_50 : decode cX11_layRound 50 = .ok (.iload_n 3, 1) := by decide +kernel
theorem dX11_layRound_51 : decode cX11_layRound 51 = .ok (.aload_n 0, 1) := by decide +kernel
theorem dX11_layRound_52 : decode cX11_layRound 52 = .ok (.getfield 175, 3) := by decide +kernel
theorem dX11_layRound_55 : decode cX11_layRound 55 = .ok (.if_icmp .ne 50, 3) := by decide +kernel
theorem dX11_layRound_58 : decode cX11_layRound 58 = .ok (.iload_n 3, 1) := by decide +kernel
theorem dX11_layRound_59 : decode cX11_layRound 59 = .ok (.ldc 181, 2) := by decide +kernel
theorem dX11_layRound_61 : decode cX11_layRound 61 = .ok (.if_icmp .le 5, 3) := by decide +kernel
theorem dX11_layRound_64 : decode cX11_layRound 64 = .ok (.iconst 0, 1) := by decide +kernel
theorem dX11_layRound_65 : decode cX11_layRound 65 = .ok (.ireturn, 1) := by decide +kernel
theorem dX11_layRound_66 : decode cX11_layRound 66 = .ok (.iconst 0, 1) := by decide +kernel
theorem dX11_layRound_67 : decode cX11_layRound 67 = .ok (.istore 4, 2) := by decide +kernel
theorem dX11_layRound_69 : decode cX11_layRound 69 = .ok (.iload 4, 2) := by decide +kernel
theorem dX11_layRound_71 : decode cX11_layRound 71 = .ok (.bipush 6, 2) := by decide +kernel
theorem dX11_layRound_73 : decode cX11_layRound 73 = .ok (.if_icmp .ge 23, 3) := by decide +kernel
theorem dX11_layRound_76 : decode cX11_layRound 76 = .ok (.aload_n 0, 1) := by decide +kernel
theorem dX11_layRound_77 : decode cX11_layRound 77 = .ok (.getfield 42, 3) := by decide +kernel
theorem dX11_layRound_80 : decode cX11_layRound 80 = .ok (.iload 4, 2) := by decide +kernel
theorem dX11_layRound_82 : decode cX11_layRound 82 = .ok (.aload_n 0, 1) := by decide +kernel
theorem dX11_layRound_83 : decode cX11_layRound 83 = .ok (.getfield 45, 3) := by decide +kernel
theorem dX11_layRound_86 : decode cX11_layRound 86 = .ok (.iload 4, 2) := by decide +kernel
theorem dX11_layRound_88 : decode cX11_layRound 88 = .ok (.laload, 1) := by decide +kernel
theorem dX11_layRound_89 : decode cX11_layRound 89 = .ok (.lastore, 1) := by decide +kernel
theorem dX11_layRound_90 : decode cX11_layRound 90 = .ok (.iinc 4 1, 3) := by decide +kernel
theorem dX11_layRound_93 : decode cX11_layRound 93 = .ok (.goto (-24), 3) := by decide +kernel
theorem dX11_layRound_96 : decode cX11_layRound 96 = .ok (.iload_n 3, 1) := by decide +kernel
theorem dX11_layRound_97 : decode cX11_layRound 97 = .ok (.iconst 2, 1) := by decide +kernel
theorem dX11_layRound_98 : decode cX11_layRound 98 = .ok (.imul, 1) := by decide +kernel
theorem dX11_layRound_99 : decode cX11_layRound 99 = .ok (.istore_n 3, 1) := by decide +kernel
theorem dX11_layRound_100 : decode cX11_layRound 100 = .ok (.aload_n 0, 1) := by decide +kernel
theorem dX11_layRound_101 : decode cX11_layRound 101 = .ok (.iconst 0, 1) := by decide +kernel
theorem dX11_layRound_102 : decode cX11_layRound 102 = .ok (.putfield 175, 3) := by decide +kernel
theorem dX11_layRound_105 : decode cX11_layRound 105 = .ok (.aload_n 0, 1) := by decide +kernel
theorem dX11_layRound_106 : decode cX11_layRound 106 = .ok (.aload_n 0, 1) := by decide +kernel
theorem dX11_layRound_107 : decode cX11_layRound 107 = .ok (.getfield 45, 3) := by decide +kernel
theorem dX11_layRound_110 : decode cX11_layRound 110 = .ok (.iload_n 1, 1) := by decide +kernel
theorem dX11_layRound_111 : decode cX11_layRound 111 = .ok (.iload_n 2, 1) := by decide +kernel
theorem dX11_layRound_112 : decode cX11_layRound 112 = .ok (.invokevirtual 172, 3) := by decide +kernel
theorem dX11_layRound_115 : decode cX11_layRound 115 = .ok (.aload_n 0, 1) := by decide +kernel
theorem dX11_layRound_116 : decode cX11_layRound 116 = .ok (.dup, 1) := by decide +kernel
theorem dX11_layRound_117 : decode cX11_layRound 117 = .ok (.getfield 175, 3) := by decide +kernel
theorem dX11_layRound_120 : decode cX11_layRound 120 = .ok (.iconst 1, 1) := by decide +kernel
theorem dX11_layRound_121 : decode cX11_layRound 121 = .ok (.iadd, 1) := by decide +kernel
theorem dX11_layRound_122 : decode cX11_layRound 122 = .ok (.putfield 175, 3) := by decide +kernel
theorem dX11_layRound_125 : decode cX11_layRound 125 = .ok (.goto (-88), 3) := by decide +kernel
theorem dX11_layRound_128 : decode cX11_layRound 128 = .ok (.aload_n 0, 1) := by decide +kernel
theorem dX11_layRound_129 : decode cX11_layRound 129 = .ok (.aload_n 0, 1) := by decide +kernel
theorem dX11_layRound_130 : decode cX11_layRound 130 = .ok (.getfield 42, 3) := by decide +kernel
theorem dX11_layRound_133 : decode cX11_layRound 133 = .ok (.iload_n 1, 1) := by decide +kernel
theorem dX11_layRound_134 : decode cX11_layRound 134 = .ok (.iload_n 2, 1) := by decide +kernel
theorem dX11_layRound_135 : decode cX11_layRound 135 = .ok (.invokevirtual 168, 3) := by decide +kernel
theorem dX11_layRound_138 : decode cX11_layRound 138 = .ok (.aload_n 0, 1) := by decide +kernel
theorem dX11_layRound_139 : decode cX11_layRound 139 = .ok (.aload_n 0, 1) := by decide +kernel
theorem dX11_layRound_140 : decode cX11_layRound 140 = .ok (.getfield 45, 3) := by decide +kernel
theorem dX11_layRound_143 : decode cX11_layRound 143 = .ok (.iload_n 1, 1) := by decide +kernel
theorem dX11_layRound_144 : decode cX11_layRound 144 = .ok (.iload_n 2, 1) := by decide +kernel
theorem dX11_layRound_145 : decode cX11_layRound 145 = .ok (.invokevirtual 168, 3) := by decide +kernel
theorem dX11_layRound_148 : decode cX11_layRound 148 = .ok (.iconst 0, 1) := by decide +kernel
theorem dX11_layRound_149 : decode cX11_layRound 149 = .ok (.istore 4, 2) := by decide +kernel
theorem dX11_layRound_151 : decode cX11_layRound 151 = .ok (.iload 4, 2) := by decide +kernel
theorem dX11_layRound_153 : decode cX11_layRound 153 = .ok (.aload_n 0, 1) := by decide +kernel
theorem dX11_layRound_154 : decode cX11_layRound 154 = .ok (.getfield 175, 3) := by decide +kernel
theorem dX11_layRound_157 : decode cX11_layRound 157 = .ok (.if_icmp .ge 19, 3) := by decide +kernel
theorem dX11_layRound_160 : decode cX11_layRound 160 = .ok (.aload_n 0, 1) := by decide +kernel
theorem dX11_layRound_161 : decode cX11_layRound 161 = .ok (.aload_n 0, 1) := by decide +kernel
theorem dX11_layRound_162 : decode cX11_layRound 162 = .ok (.getfield 45, 3) := by decide +kernel
theorem dX11_layRound_165 : decode cX11_layRound 165 = .ok (.iload_n 1, 1) := by decide +kernel
theorem dX11_layRound_166 : decode cX11_layRound 166 = .ok (.iload_n 2, 1) := by decide +kernel
theorem dX11_layRound_167 : decode cX11_layRound 167 = .ok (.invokevirtual 172, 3) := by decide +kernel
theorem dX11_layRound_170 : decode cX11_layRound 170 = .ok (.iinc 4 1, 3) := by decide +kernel
theorem dX11_layRound_173 : decode cX11_layRound 173 = .ok (.goto (-22), 3) := by decide +kernel
theorem dX11_layRound_176 : decode cX11_layRound 176 = .ok (.aload_n 0, 1) := by decide +kernel
theorem dX11_layRound_177 : decode cX11_layRound 177 = .ok (.iconst 0, 1) := by decide +kernel
theorem dX11_layRound_178 : decode cX11_layRound 178 = .ok (.putfield 182, 3) := by decide +kernel
theorem dX11_layRound_181 : decode cX11_layRound 181 = .ok (.aload_n 0, 1) := by decide +kernel
theorem dX11_layRound_182 : decode cX11_layRound 182 = .ok (.aload_n 0, 1) := by decide +kernel
theorem dX11_layRound_183 : decode cX11_layRound 183 = .ok (.getfield 7, 3) := by decide +kernel
theorem dX11_layRound_186 : decode cX11_layRound 186 = .ok (.iload_n 1, 1) := by decide +kernel
theorem dX11_layRound_187 : decode cX11_layRound 187 = .ok (.iaload, 1) := by decide +kernel
theorem dX11_layRound_188 : decode cX11_layRound 188 = .ok (.invokevirtual 178, 3) := by decide +kernel
theorem dX11_layRound_191 : decode cX11_layRound 191 = .ok (.ifCond .ne 36, 3) := by decide +kernel
theorem dX11_layRound_194 : decode cX11_layRound 194 = .ok (.aload_n 0, 1) := by decide +kernel
theorem dX11_layRound_195 : decode cX11_layRound 195 = .ok (.aload_n 0, 1) := by decide +kernel
theorem dX11_layRound_196 : decode cX11_layRound 196 = .ok (.getfield 42, 3) := by decide +kernel
theorem dX11_layRound_199 : decode cX11_layRound 199 = .ok (.iload_n 1, 1) := by decide +kernel
theorem dX11_layRound_200 : decode cX11_layRound 200 = .ok (.iload_n 2, 1) := by decide +kernel
theorem dX11_layRound_201 : decode cX11_layRound 201 = .ok (.invokevirtual 172, 3) := by decide +kernel
theorem dX11_layRound_204 : decode cX11_layRound 204 = .ok (.aload_n 0, 1) := by decide +kernel
theorem dX11_layRound_205 : decode cX11_layRound 205 = .ok (.aload_n 0, 1) := by decide +kernel
theorem dX11_layRound_206 : decode cX11_layRound 206 = .ok (.getfield 45, 3) := by decide +kernel
theorem dX11_layRound_209 : decode cX11_layRound 209 = .ok (.iload_n 1, 1) := by decide +kernel
theorem dX11_layRound_210 : decode cX11_layRound 210 = .ok (.iload_n 2, 1) := by decide +kernel
theorem dX11_layRound_211 : decode cX11_layRound 211 = .ok (.invokevirtual 172, 3) := by decide +kernel
theorem dX11_layRound_214 : decode cX11_layRound 214 = .ok (.aload_n 0, 1) := by decide +kernel
theorem dX11_layRound_215 : decode cX11_layRound 215 = .ok (.dup, 1) := by decide +kernel
theorem dX11_layRound_216 : decode cX11_layRound 216 = .ok (.getfield 182, 3) := by decide +kernel
theorem dX11_layRound_219 : decode cX11_layRound 219 = .ok (.iconst 1, 1) := by decide +kernel
theorem dX11_layRound_220 : decode cX11_layRound 220 = .ok (.iadd, 1) := by decide +kernel
theorem dX11_layRound_221 : decode cX11_layRound 221 = .ok (.putfield 182, 3) := by decide +kernel
theorem dX11_layRound_224 : decode cX11_layRound 224 = .ok (.goto (-43), 3) := by decide +kernel
theorem dX11_layRound_227 : decode cX11_layRound 227 = .ok (.aload_n 0, 1) := by decide +kernel
theorem dX11_layRound_228 : decode cX11_layRound 228 = .ok (.getfield 182, 3) := by decide +kernel
theorem dX11_layRound_231 : decode cX11_layRound 231 = .ok (.aload_n 0, 1) := by decide +kernel
theorem dX11_layRound_232 : decode cX11_layRound 232 = .ok (.getfield 175, 3) := by decide +kernel
theorem dX11_layRound_235 : decode cX11_layRound 235 = .ok (.iadd, 1) := by decide +kernel
theorem dX11_layRound_236 : decode cX11_layRound 236 = .ok (.ldc 185, 2) := by decide +kernel
theorem dX11_layRound_238 : decode cX11_layRound 238 = .ok (.if_icmp .gt 7, 3) := by decide +kernel
theorem dX11_layRound_241 : decode cX11_layRound 241 = .ok (.iconst 1, 1) := by decide +kernel
theorem dX11_layRound_242 : decode cX11_layRound 242 = .ok (.goto 4, 3) := by decide +kernel
theorem dX11_layRound_245 : decode cX11_layRound 245 = .ok (.iconst 0, 1) := by decide +kernel
theorem dX11_layRound_246 : decode cX11_layRound 246 = .ok (.ireturn, 1) := by decide +kernel
theorem dX11_lookFor_0 : decode cX11_lookFor 0 = .ok (.aload_n 0, 1) := by decide +kernel
theorem dX11_lookFor_1 : decode cX11_lookFor 1 = .ok (.aload_n 0, 1) := by decide +kernel
theorem dX11_lookFor_2 : decode cX11_lookFor 2 = .ok (.getfield 42, 3) := by decide +kernel
theorem dX11_lookFor_5 : decode cX11_lookFor 5 = .ok (.iload_n 1, 1) := by decide +kernel
theorem dX11_lookFor_6 : decode cX11_lookFor 6 = .ok (.iload_n 2, 1) := by decide +kernel
theorem dX11_lookFor_7 : decode cX11_lookFor 7 = .ok (.invokevirtual 168, 3) := by decide +kernel
theorem dX11_lookFor_10 : decode cX11_lookFor 10 = .ok (.iconst 0, 1) := by decide +kernel
theorem dX11_lookFor_11 : decode cX11_lookFor 11 = .ok (.istore 5, 2) := by decide +kernel
theorem dX11_lookFor_13 : decode cX11_lookFor 13 = .ok (.iconst 0, 1) := by decide +kernel
theorem dX11_lookFor_14 : decode cX11_lookFor 14 = .ok (.istore 6, 2) := by decide +kernel
theorem dX11_lookFor_16 : decode cX11_lookFor 16 = .ok (.iload 6, 2) := by decide +kernel
theorem dX11_lookFor_18 : decode cX11_lookFor 18 = .ok (.aload_n 0, 1) := by decide +kernel
theorem dX11_lookFor_19 : decode cX11_lookFor 19 = .ok (.getfield 182, 3) := by decide +kernel
theorem dX11_lookFor_22 : decode cX11_lookFor 22 = .ok (.aload_n 0, 1) := by decide +kernel
theorem dX11_lookFor_23 : decode cX11_lookFor 23 = .ok (.getfield 175, 3) := by decide +kernel
theorem dX11_lookFor_26 : decode cX11_lookFor 26 = .ok (.iadd, 1) := by decide +kernel
theorem dX11_lookFor_27 : decode cX11_lookFor 27 = .ok (.if_icmp .ge 42, 3) := by decide +kernel
theorem dX11_lookFor_30 : decode cX11_lookFor 30 = .ok (.aload_n 0, 1) := by decide +kernel
theorem dX11_lookFor_31 : decode cX11_lookFor 31 = .ok (.getfield 42, 3) := by decide +kernel
theorem dX11_lookFor_34 : decode cX11_lookFor 34 = .ok (.iconst 0, 1) := by decide +kernel
theorem dX11_lookFor_35 : decode cX11_lookFor 35 = .ok (.laload, 1) := by decide +kernel
theorem dX11_lookFor_36 : decode cX11_lookFor 36 = .ok (.iload_n 3, 1) := by decide +kernel
theorem dX11_lookFor_37 : decode cX11_lookFor 37 = .ok (.i2l, 1) := by decide +kernel
theorem dX11_lookFor_38 : decode cX11_lookFor 38 = .ok (.lcmp, 1) := by decide +kernel
theorem dX11_lookFor_39 : decode cX11_lookFor 39 = .ok (.ifCond .ne 14, 3) := by decide +kernel
theorem dX11_lookFor_42 : decode cX11_lookFor 42 = .ok (.iload 4, 2) := by decide +kernel
theorem dX11_lookFor_44 : decode cX11_lookFor 44 = .ok (.ifCond .eq 6, 3) := by decide +kernel
theorem dX11_lookFor_47 : decode cX11_lookFor 47 = .ok (.iload 6, 2) := by decide +kernel
theorem dX11_lookFor_49 : decode cX11_lookFor 49 = .ok (.ireturn, 1) := by decide +kernel
theorem dX11_lookFor_50 : decode cX11_lookFor 50 = .ok (.iinc 5 1, 3) := by decide +kernel
theorem dX11_lookFor_53 : decode cX11_lookFor 53 = .ok (.aload_n 0, 1) := by decide +kernel
theorem dX11_lookFor_54 : decode cX11_lookFor 54 = .ok (.aload_n 0, 1) := by decide +kernel
theorem dX11_lookFor_55 : decode cX11_lookFor 55 = .ok (.getfield 42, 3) := by decide +kernel
theorem dX11_lookFor_58 : decode cX11_lookFor 58 = .ok (.iload_n 1, 1) := by decide +kernel
theorem dX11_lookFor_59 : decode cX11_lookFor 59 = .ok (.iload_n 2, 1) := by decide +kernel
theorem dX11_lookFor_60 : decode cX11_lookFor 60 = .ok (.invokevirtual 172, 3) := by decide +kernel
theorem dX11_lookFor_63 : decode cX11_lookFor 63 = .ok (.iinc 6 1, 3) := by decide +kernel
theorem dX11_lookFor_66 : decode cX11_lookFor 66 = .ok (.goto (-50), 3) := by decide +kernel
theorem dX11_lookFor_69 : decode cX11_lookFor 69 = .ok (.iload 4, 2) := by decide +kernel
theorem dX11_lookFor_71 : decode cX11_lookFor 71 = .ok (.ifCond .eq 8, 3) := by decide +kernel
theorem dX11_lookFor_74 : decode cX11_lookFor 74 = .ok (.bipush (-4), 2) := by decide +kernel
theorem dX11_lookFor_76 : decode cX11_lookFor 76 = .ok (.goto 5, 3) := by decide +kernel
theorem dX11_lookFor_79 : decode cX11_lookFor 79 = .ok (.iload 5, 2) := by decide +kernel
theorem dX11_lookFor_81 : decode cX11_lookFor 81 = .ok (.ireturn, 1) := by decide +kernel
theorem dX11_round_0 : decode cX11_round 0 = .ok (.iload_n 1, 1) := by decide +kernel
theorem dX11_round_1 : decode cX11_round 1 = .ok (.invokestatic 127, 3) := by decide +kernel
theorem dX11_round_4 : decode cX11_round 4 = .ok (.ifCond .eq 29, 3) := by decide +kernel
theorem dX11_round_7 : decode cX11_round 7 = .ok (.iload_n 2, 1) := by decide +kernel
theorem dX11_round_8 : decode cX11_round 8 = .ok (.i2l, 1) := by decide +kernel
theorem dX11_round_9 : decode cX11_round 9 = .ok (.ldc2_w 134, 3) := by decide +kernel
theorem dX11_round_12 : decode cX11_round 12 = .ok (.ldc2_w 186, 3) := by decide +kernel
theorem dX11_round_15 : decode cX11_round 15 = .ok (.invokestatic 80, 3) := by decide +kernel
theorem dX11_round_18 : decode cX11_round 18 = .ok (.ifCond .eq 15, 3) := by decide +kernel
theorem dX11_round_21 : decode cX11_round 21 = .ok (.iload_n 3, 1) := by decide +kernel
theorem dX11_round_22 : decode cX11_round 22 = .ok (.i2l, 1) := by decide +kernel
theorem dX11_round_23 : decode cX11_round 23 = .ok (.lconst 0, 1) := by decide +kernel
theorem dX11_round_24 : decode cX11_round 24 = .ok (.ldc2_w 134, 3) := by decide +kernel
theorem dX11_round_27 : decode cX11_round 27 = .ok (.invokestatic 80, 3) := by decide +kernel
theorem dX11_round_30 : decode cX11_round 30 = .ok (.ifCond .ne 5, 3) := by decide +kernel
theorem dX11_round_33 : decode cX11_round 33 = .ok (.iconst (-1), 1) := by decide +kernel
theorem dX11_round_34 : decode cX11_round 34 = .ok (.ireturn, 1) := by decide +kernel
theorem dX11_round_35 : decode cX11_round 35 = .ok (.aload_n 0, 1) := by decide +kernel
theorem dX11_round_36 : decode cX11_round 36 = .ok (.iload_n 1, 1) := by decide +kernel
theorem dX11_round_37 : decode cX11_round 37 = .ok (.iload_n 2, 1) := by decide +kernel
theorem dX11_round_38 : decode cX11_round 38 = .ok (.invokevirtual 188, 3) := by decide +kernel
theorem dX11_round_41 : decode cX11_round 41 = .ok (.ifCond .ne 6, 3) := by decide +kernel
theorem dX11_round_44 : decode cX11_round 44 = .ok (.bipush (-5), 2) := by decide +kernel
theorem dX11_round_46 : decode cX11_round 46 = .ok (.ireturn, 1) := by decide +kernel
theorem dX11_round_47 : decode cX11_round 47 = .ok (.iload_n 3, 1) := by decide +kernel
theorem dX11_round_48 : decode cX11_round 48 = .ok (.ifCond .ne 10, 3) := by decide +kernel
theorem dX11_round_51 : decode cX11_round 51 = .ok (.aload_n 0, 1) := by decide +kernel
theorem dX11_round_52 : decode cX11_round 52 = .ok (.getfield 182, 3) := by decide +kernel
theorem dX11_round_55 : decode cX11_round 55 = .ok (.goto 23, 3) := by decide +kernel
theorem dX11_round_58 : decode cX11_round 58 = .ok (.iload_n 3, 1) := by decide +kernel
theorem dX11_round_59 : decode cX11_round 59 = .ok (.iconst 1, 1) := by decide +kernel
theorem dX11_round_60 : decode cX11_round 60 = .ok (.if_icmp .ne 10, 3) := by decide +kernel
theorem dX11_round_63 : decode cX11_round 63 = .ok (.aload_n 0, 1) := by decide +kernel
theorem dX11_round_64 : decode cX11_round 64 = .ok (.getfield 175, 3) := by decide +kernel
theorem dX11_round_67 : decode cX11_round 67 = .ok (.goto 11, 3) := by decide +kernel
theorem dX11_round_70 : decode cX11_round 70 = .ok (.aload_n 0, 1) := by decide +kernel
theorem dX11_round_71 : decode cX11_round 71 = .ok (.iload_n 1, 1) := by decide +kernel
theorem dX11_round_72 : decode cX11_round 72 = .ok (.iload_n 2, 1) := by decide +kernel
theorem dX11_round_73 : decode cX11_round 73 = .ok (.iconst 0, 1) := by decide +kernel
theorem dX11_round_74 : decode cX11_round 74 = .ok (.iconst 0, 1) := by decide +kernel
theorem dX11_round_75 : decode cX11_round 75 = .ok (.invokevirtual 192, 3) := by decide +kernel
theorem dX11_round_78 : decode cX11_round 78 = .ok (.ireturn, 1) := by decide +kernel
theorem dX11_first_0 : decode cX11_first 0 = .ok (.iload_n 1, 1) := by decide +kernel
theorem dX11_first_1 : decode cX11_first 1 = .ok (.invokestatic 127, 3) := by decide +kernel
theorem dX11_first_4 : decode cX11_first 4 = .ok (.ifCond .eq 30, 3) := by decide +kernel
theorem dX11_first_7 : decode cX11_first 7 = .ok (.iload_n 2, 1) := by decide +kernel
theorem dX11_first_8 : decode cX11_first 8 = .ok (.i2l, 1) := by decide +kernel
theorem dX11_first_9 : decode cX11_first 9 = .ok (.ldc2_w 134, 3) := by decide +kernel
theorem dX11_first_12 : decode cX11_first 12 = .ok (.ldc2_w 186, 3) := by decide +kernel
theorem dX11_first_15 : decode cX11_first 15 = .ok (.invokestatic 80, 3) := by decide +kernel
theorem dX11_first_18 : decode cX11_first 18 = .ok (.ifCond .eq 16, 3) := by decide +kernel
theorem dX11_first_21 : decode cX11_first 21 = .ok (.iload_n 3, 1) := by decide +kernel
theorem dX11_first_22 : decode cX11_first 22 = .ok (.i2l, 1) := by decide +kernel
theorem dX11_first_23 : decode cX11_first 23 = .ok (.lconst 0, 1) := by decide +kernel
theorem dX11_first_24 : decode cX11_first 24 = .ok (.iload_n 2, 1) := by decide +kernel
theorem dX11_first_25 : decode cX11_first 25 = .ok (.iconst 1, 1) := by decide +kernel
theorem dX11_first_26 : decode cX11_first 26 = .ok (.isub, 1) := by decide +kernel
theorem dX11_first_27 : decode cX11_first 27 = .ok (.i2l, 1) := by decide +kernel
theorem dX11_first_28 : decode cX11_first 28 = .ok (.invokestatic 80, 3) := by decide +kernel
theorem dX11_first_31 : decode cX11_first 31 = .ok (.ifCond .ne 5, 3) := by decide +kernel
theorem dX11_first_34 : decode cX11_first 34 = .ok (.iconst (-1), 1) := by decide +kernel
theorem dX11_first_35 : decode cX11_first 35 = .ok (.ireturn, 1) := by decide +kernel
theorem dX11_first_36 : decode cX11_first 36 = .ok (.aload_n 0, 1) := by decide +kernel
theorem dX11_first_37 : decode cX11_first 37 = .ok (.iload_n 1, 1) := by decide +kernel
theorem dX11_first_38 : decode cX11_first 38 = .ok (.iload_n 2, 1) := by decide +kernel
theorem dX11_first_39 : decode cX11_first 39 = .ok (.invokevirtual 188, 3) := by decide +kernel
theorem dX11_first_42 : decode cX11_first 42 = .ok (.ifCond .eq 14, 3) := by decide +kernel
theorem dX11_first_45 : decode cX11_first 45 = .ok (.aload_n 0, 1) := by decide +kernel
theorem dX11_first_46 : decode cX11_first 46 = .ok (.iload_n 1, 1) := by decide +kernel
theorem dX11_first_47 : decode cX11_first 47 = .ok (.iload_n 2, 1) := by decide +kernel
theorem dX11_first_48 : decode cX11_first 48 = .ok (.iload_n 3, 1) := by decide +kernel
theorem dX11_first_49 : decode cX11_first 49 = .ok (.iconst 1, 1) := by decide +kernel
theorem dX11_first_50 : decode cX11_first 50 = .ok (.invokevirtual 192, 3) := by decide +kernel
theorem dX11_first_53 : decode cX11_first 53 = .ok (.goto 5, 3) := by decide +kernel
theorem dX11_first_56 : decode cX11_first 56 = .ok (.bipush (-5), 2) := by decide +kernel
theorem dX11_first_58 : decode cX11_first 58 = .ok (.ireturn, 1) := by decide +kernel
theorem dX11_inverse_0 : decode cX11_inverse 0 = .ok (.lload_n 0, 1) := by decide +kernel
theorem dX11_inverse_1 : decode cX11_inverse 1 = .ok (.lload_n 2, 1) := by decide +kernel
theorem dX11_inverse_2 : decode cX11_inverse 2 = .ok (.invokestatic 156, 3) := by decide +kernel
theorem dX11_inverse_5 : decode cX11_inverse 5 = .ok (.lstore 4, 2) := by decide +kernel
theorem dX11_inverse_7 : decode cX11_inverse 7 = .ok (.lload_n 2, 1) := by decide +kernel
theorem dX11_inverse_8 : decode cX11_inverse 8 = .ok (.lstore 6, 2) := by decide +kernel
theorem dX11_inverse_10 : decode cX11_inverse 10 = .ok (.lconst 1, 1) := by decide +kernel
theorem dX11_inverse_11 : decode cX11_inverse 11 = .ok (.lstore 8, 2) := by decide +kernel
theorem dX11_inverse_13 : decode cX11_inverse 13 = .ok (.lconst 0, 1) := by decide +kernel
theorem dX11_inverse_14 : decode cX11_inverse 14 = .ok (.lstore 10, 2) := by decide +kernel
theorem dX11_inverse_16 : decode cX11_inverse 16 = .ok (.lload 6, 2) := by decide +kernel
theorem dX11_inverse_18 : decode cX11_inverse 18 = .ok (.lconst 0, 1) := by decide +kernel
theorem dX11_inverse_19 : decode cX11_inverse 19 = .ok (.lcmp, 1) := by decide +kernel
theorem dX11_inverse_20 : decode cX11_inverse 20 = .ok (.ifCond .eq 46, 3) := by decide +kernel
theorem dX11_inverse_23 : decode cX11_inverse 23 = .ok (.lload 4, 2) := by decide +kernel
theorem dX11_inverse_25 : decode cX11_inverse 25 = .ok (.lload 6, 2) := by decide +kernel
theorem dX11_inverse_27 : decode cX11_inverse 27 = .ok (.ldiv, 1) := by decide +kernel
theorem dX11_inverse_28 : decode cX11_inverse 28 = .ok (.lstore 12, 2) := by decide +kernel
theorem dX11_inverse_30 : decode cX11_inverse 30 = .ok (.lload 4, 2) := by decide +kernel
theorem dX11_inverse_32 : decode cX11_inverse 32 = .ok (.lload 6, 2) := by decide +kernel
theorem dX11_inverse_34 : decode cX11_inverse 34 = .ok (.lrem, 1) := by decide +kernel
theorem dX11_inverse_35 : decode cX11_inverse 35 = .ok (.lstore 14, 2) := by decide +kernel
theorem dX11_inverse_37 : decode cX11_inverse 37 = .ok (.lload 6, 2) := by decide +kernel
theorem dX11_inverse_39 : decode cX11_inverse 39 = .ok (.lstore 4, 2) := by decide +kernel
theorem dX11_inverse_41 : decode cX11_inverse 41 = .ok (.lload 14, 2) := by decide +kernel
theorem dX11_inverse_43 : decode cX11_inverse 43 = .ok (.lstore 6, 2) := by decide +kernel
theorem dX11_inverse_45 : decode cX11_inverse 45 = .ok (.lload 8, 2) := by decide +kernel
theorem dX11_inverse_47 : decode cX11_inverse 47 = .ok (.lload 12, 2) := by decide +kernel
theorem dX11_inverse_49 : decode cX11_inverse 49 = .ok (.lload 10, 2) := by decide +kernel
theorem dX11_inverse_51 : decode cX11_inverse 51 = .ok (.lmul, 1) := by decide +kernel
theorem dX11_inverse_52 : decode cX11_inverse 52 = .ok (.lsub, 1) := by decide +kernel
theorem dX11_inverse_53 : decode cX11_inverse 53 = .ok (.lstore 16, 2) := by decide +kernel
theorem dX11_inverse_55 : decode cX11_inverse 55 = .ok (.lload 10, 2) := by decide +kernel
theorem dX11_inverse_57 : decode cX11_inverse 57 = .ok (.lstore 8, 2) := by decide +kernel
theorem dX11_inverse_59 : decode cX11_inverse 59 = .ok (.lload 16, 2) := by decide +kernel
theorem dX11_inverse_61 : decode cX11_inverse 61 = .ok (.lstore 10, 2) := by decide +kernel
theorem dX11_inverse_63 : decode cX11_inverse 63 = .ok (.goto (-47), 3) := by decide +kernel
theorem dX11_inverse_66 : decode cX11_inverse 66 = .ok (.lload 8, 2) := by decide +kernel
theorem dX11_inverse_68 : decode cX11_inverse 68 = .ok (.lload_n 2, 1) := by decide +kernel
theorem dX11_inverse_69 : decode cX11_inverse 69 = .ok (.invokestatic 156, 3) := by decide +kernel
theorem dX11_inverse_72 : decode cX11_inverse 72 = .ok (.lreturn, 1) := by decide +kernel
theorem dX11_back_0 : decode cX11_back 0 = .ok (.iload_n 1, 1) := by decide +kernel
theorem dX11_back_1 : decode cX11_back 1 = .ok (.invokestatic 127, 3) := by decide +kernel
theorem dX11_back_4 : decode cX11_back 4 = .ok (.ifCond .eq 29, 3) := by decide +kernel
theorem dX11_back_7 : decode cX11_back 7 = .ok (.iload_n 2, 1) := by decide +kernel
theorem dX11_back_8 : decode cX11_back 8 = .ok (.i2l, 1) := by decide +kernel
theorem dX11_back_9 : decode cX11_back 9 = .ok (.lconst 1, 1) := by decide +kernel
theorem dX11_back_10 : decode cX11_back 10 = .ok (.ldc2_w 121, 3) := by decide +kernel
theorem dX11_back_13 : decode cX11_back 13 = .ok (.invokestatic 80, 3) := by decide +kernel
theorem dX11_back_16 : decode cX11_back 16 = .ok (.ifCond .eq 17, 3) := by decide +kernel
theorem dX11_back_19 : decode cX11_back 19 = .ok (.iload_n 3, 1) := by decide +kernel
theorem dX11_back_20 : decode cX11_back 20 = .ok (.i2l, 1) := by decide +kernel
theorem dX11_back_21 : decode cX11_back 21 = .ok (.ldc2_w 134, 3) := by decide +kernel
theorem dX11_back_24 : decode cX11_back 24 = .ok (.ldc2_w 121, 3) := by decide +kernel
theorem dX11_back_27 : decode cX11_back 27 = .ok (.invokestatic 80, 3) := by decide +kernel
theorem dX11_back_30 : decode cX11_back 30 = .ok (.ifCond .ne 5, 3) := by decide +kernel
theorem dX11_back_33 : decode cX11_back 33 = .ok (.iconst (-1), 1) := by decide +kernel
theorem dX11_back_34 : decode cX11_back 34 = .ok (.ireturn, 1) := by decide +kernel
theorem dX11_back_35 : decode cX11_back 35 = .ok (.aload_n 0, 1) := by decide +kernel
theorem dX11_back_36 : decode cX11_back 36 = .ok (.getfield 7, 3) := by decide +kernel
theorem dX11_back_39 : decode cX11_back 39 = .ok (.iload_n 1, 1) := by decide +kernel
theorem dX11_back_40 : decode cX11_back 40 = .ok (.iaload, 1) := by decide +kernel
theorem dX11_back_41 : decode cX11_back 41 = .ok (.istore 4, 2) := by decide +kernel
theorem dX11_back_43 : decode cX11_back 43 = .ok (.aload_n 0, 1) := by decide +kernel
theorem dX11_back_44 : decode cX11_back 44 = .ok (.getfield 13, 3) := by decide +kernel
theorem dX11_back_47 : decode cX11_back 47 = .ok (.bipush 6, 2) := by decide +kernel
theorem dX11_back_49 : decode cX11_back 49 = .ok (.iload_n 1, 1) := by decide +kernel
theorem dX11_back_50 : decode cX11_back 50 = .ok (.imul, 1) := by decide +kernel
theorem dX11_back_51 : decode cX11_back 51 = .ok (.iload 4, 2) := by decide +kernel
theorem dX11_back_53 : decode cX11_back 53 = .ok (.iadd, 1) := by decide +kernel
theorem dX11_back_54 : decode cX11_back 54 = .ok (.iconst 1, 1) := by decide +kernel
theorem dX11_back_55 : decode cX11_back 55 = .ok (.isub, 1) := by decide +kernel
theorem dX11_back_56 : decode cX11_back 56 = .ok (.laload, 1) := by decide +kernel
theorem dX11_back_57 : decode cX11_back 57 = .ok (.iload_n 3, 1) := by decide +kernel
theorem dX11_back_58 : decode cX11_back 58 = .ok (.i2l, 1) := by decide +kernel
theorem dX11_back_59 : decode cX11_back 59 = .ok (.invokestatic 196, 3) := by decide +kernel
theorem dX11_back_62 : decode cX11_back 62 = .ok (.lconst 1, 1) := by decide +kernel
theorem dX11_back_63 : decode cX11_back 63 = .ok (.lcmp, 1) := by decide +kernel
theorem dX11_back_64 : decode cX11_back 64 = .ok (.ifCond .eq 6, 3) := by decide +kernel
theorem dX11_back_67 : decode cX11_back 67 = .ok (.bipush (-2), 2) := by decide +kernel
theorem dX11_back_69 : decode cX11_back 69 = .ok (.ireturn, 1) := by decide +kernel
theorem dX11_back_70 : decode cX11_back 70 = .ok (.aload_n 0, 1) := by decide +kernel
theorem dX11_back_71 : decode cX11_back 71 = .ok (.getfield 13, 3) := by decide +kernel
theorem dX11_back_74 : decode cX11_back 74 = .ok (.bipush 6, 2) := by decide +kernel
theorem dX11_back_76 : decode cX11_back 76 = .ok (.iload_n 1, 1) := by decide +kernel
theorem dX11_back_77 : decode cX11_back 77 = .ok (.imul, 1) := by decide +kernel
theorem dX11_back_78 : decode cX11_back 78 = .ok (.iload 4, 2) := by decide +kernel
theorem dX11_back_80 : decode cX11_back 80 = .ok (.iadd, 1) := by decide +kernel
theorem dX11_back_81 : decode cX11_back 81 = .ok (.iconst 1, 1) := by decide +kernel
theorem dX11_back_82 : decode cX11_back 82 = .ok (.isub, 1) := by decide +kernel
theorem dX11_back_83 : decode cX11_back 83 = .ok (.laload, 1) := by decide +kernel
theorem dX11_back_84 : decode cX11_back 84 = .ok (.iload_n 3, 1) := by decide +kernel
theorem dX11_back_85 : decode cX11_back 85 = .ok (.i2l, 1) := by decide +kernel
theorem dX11_back_86 : decode cX11_back 86 = .ok (.invokestatic 199, 3) := by decide +kernel
theorem dX11_back_89 : decode cX11_back 89 = .ok (.lstore 5, 2) := by decide +kernel
theorem dX11_back_91 : decode cX11_back 91 = .ok (.aload_n 0, 1) := by decide +kernel
theorem dX11_back_92 : decode cX11_back 92 = .ok (.aload_n 0, 1) := by decide +kernel
theorem dX11_back_93 : decode cX11_back 93 = .ok (.getfield 42, 3) := by decide +kernel
theorem dX11_back_96 : decode cX11_back 96 = .ok (.iload_n 1, 1) := by decide +kernel
theorem dX11_back_97 : decode cX11_back 97 = .ok (.iload_n 3, 1) := by decide +kernel
theorem dX11_back_98 : decode cX11_back 98 = .ok (.invokevirtual 168, 3) := by decide +kernel
theorem dX11_back_101 : decode cX11_back 101 = .ok (.iconst 0, 1) := by decide +kernel
theorem dX11_back_102 : decode cX11_back 102 = .ok (.istore 7, 2) := by decide +kernel
theorem dX11_back_104 : decode cX11_back 104 = .ok (.iload 7, 2) := by decide +kernel
theorem dX11_back_106 : decode cX11_back 106 = .ok (.iload_n 2, 1) := by decide +kernel
theorem dX11_back_107 : decode cX11_back 107 = .ok (.if_icmp .ge 125, 3) := by decide +kernel
theorem dX11_back_110 : decode cX11_back 110 = .ok (.aload_n 0, 1) := by decide +kernel
theorem dX11_back_111 : decode cX11_back 111 = .ok (.getfield 42, 3) := by decide +kernel
theorem dX11_back_114 : decode cX11_back 114 = .ok (.iload 4, 2) := by decide +kernel
theorem dX11_back_116 : decode cX11_back 116 = .ok (.iconst 1, 1) := by decide +kernel
theorem dX11_back_117 : decode cX11_back 117 = .ok (.isub, 1) := by decide +kernel
theorem dX11_back_118 : decode cX11_back 118 = .ok (.laload, 1) := by decide +kernel
theorem dX11_back_119 : decode cX11_back 119 = .ok (.lstore 8, 2) := by decide +kernel
theorem dX11_back_121 : decode cX11_back 121 = .ok (.iconst 1, 1) := by decide +kernel
theorem dX11_back_122 : decode cX11_back 122 = .ok (.istore 10, 2) := by decide +kernel
theorem dX11_back_124 : decode cX11_back 124 = .ok (.iload 10, 2) := by decide +kernel
theorem dX11_back_126 : decode cX11_back 126 = .ok (.iload 4, 2) := by decide +kernel
theorem dX11_back_128 : decode cX11_back 128 = .ok (.if_icmp .ge 51, 3) := by decide +kernel
theorem dX11_back_131 : decode cX11_back 131 = .ok (.lload 8, 2) := by decide +kernel
theorem dX11_back_133 : decode cX11_back 133 = .ok (.aload_n 0, 1) := by decide +kernel
theorem dX11_back_134 : decode cX11_back 134 = .ok (.getfield 13, 3) := by decide +kernel
theorem dX11_back_137 : decode cX11_back 137 = .ok (.bipush 6, 2) := by decide +kernel
theorem dX11_back_139 : decode cX11_back 139 = .ok (.iload_n 1, 1) := by decide +kernel
theorem dX11_back_140 : decode cX11_back 140 = .ok (.imul, 1) := by decide +kernel
theorem dX11_back_141 : decode cX11_back 141 = .ok (.iload 10, 2) := by decide +kernel
theorem dX11_back_143 : decode cX11_back 143 = .ok (.iadd, 1) := by decide +kernel
theorem dX11_back_144 : decode cX11_back 144 = .ok (.iconst 1, 1) := by decide +kernel
theorem dX11_back_145 : decode cX11_back 145 = .ok (.isub, 1) := by decide +kernel
theorem dX11_back_146 : decode cX11_back 146 = .ok (.laload, 1) := by decide +kernel
theorem dX11_back_147 : decode cX11_back 147 = .ok (.iload_n 3, 1) := by decide +kernel
theorem dX11_back_148 : decode cX11_back 148 = .ok (.i2l, 1) := by decide +kernel
theorem dX11_back_149 : decode cX11_back 149 = .ok (.invokestatic 156, 3) := by decide +kernel
theorem dX11_back_152 : decode cX11_back 152 = .ok (.aload_n 0, 1) := by decide +kernel
theorem dX11_back_153 : decode cX11_back 153 = .ok (.getfield 42, 3) := by decide +kernel
theorem dX11_back_156 : decode cX11_back 156 = .ok (.iload 4, 2) := by decide +kernel
theorem dX11_back_158 : decode cX11_back 158 = .ok (.iconst 1, 1) := by decide +kernel
theorem dX11_back_159 : decode cX11_back 159 = .ok (.isub, 1) := by decide +kernel
theorem dX11_back_160 : decode cX11_back 160 = .ok (.iload 10, 2) := by decide +kernel
theorem dX11_back_162 : decode cX11_back 162 = .ok (.isub, 1) := by decide +kernel
theorem dX11_back_163 : decode cX11_back 163 = .ok (.laload, 1) := by decide +kernel
theorem dX11_back_164 : decode cX11_back 164 = .ok (.lmul, 1) := by decide +kernel
theorem dX11_back_165 : decode cX11_back 165 = .ok (.lsub, 1) := by decide +kernel
theorem dX11_back_166 : decode cX11_back 166 = .ok (.iload_n 3, 1) := by decide +kernel
theorem dX11_back_167 : decode cX11_back 167 = .ok (.i2l, 1) := by decide +kernel
theorem dX11_back_168 : decode cX11_back 168 = .ok (.invokestatic 156, 3) := by decide +kernel
theorem dX11_back_171 : decode cX11_back 171 = .ok (.lstore 8, 2) := by decide +kernel
theorem dX11_back_173 : decode cX11_back 173 = .ok (.iinc 10 1, 3) := by decide +kernel
theorem dX11_back_176 : decode cX11_back 176 = .ok (.goto (-52), 3) := by decide +kernel
theorem dX11_back_179 : decode cX11_back 179 = .ok (.iload 4, 2) := by decide +kernel
theorem dX11_back_181 : decode cX11_back 181 = .ok (.iconst 1, 1) := by decide +kernel
theorem dX11_back_182 : decode cX11_back 182 = .ok (.isub, 1) := by decide +kernel
theorem dX11_back_183 : decode cX11_back 183 = .ok (.istore 10, 2) := by decide +kernel
theorem dX11_back_185 : decode cX11_back 185 = .ok (.iload 10, 2) := by decide +kernel
theorem dX11_back_187 : decode cX11_back 187 = .ok (.ifCond .le 25, 3) := by decide +kernel
theorem dX11_back_190 : decode cX11_back 190 = .ok (.aload_n 0, 1) := by decide +kernel
theorem dX11_back_191 : decode cX11_back 191 = .ok (.getfield 42, 3) := by decide +kernel
theorem dX11_back_194 : decode cX11_back 194 = .ok (.iload 10, 2) := by decide +kernel
theorem dX11_back_196 : decode cX11_back 196 = .ok (.aload_n 0, 1) := by decide +kernel
theorem dX11_back_197 : decode cX11_back 197 = .ok (.getfield 42, 3) := by decide +kernel
theorem dX11_back_200 : decode cX11_back 200 = .ok (.iload 10, 2) := by decide +kernel
theorem dX11_back_202 : decode cX11_back 202 = .ok (.iconst 1, 1) := by decide +kernel
theorem dX11_back_203 : decode cX11_back 203 = .ok (.isub, 1) := by decide +kernel
theorem dX11_back_204 : decode cX11_back 204 = .ok (.laload, 1) := by decide +kernel
theorem dX11_back_205 : decode cX11_back 205 = .ok (.lastore, 1) := by decide +kernel
theorem dX11_back_206 : decode cX11_back 206 = .ok (.iinc 10 (-1), 3) := by decide +kernel
theorem dX11_back_209 : decode cX11_back 209 = .ok (.goto (-24), 3) := by decide +kernel
theorem dX11_back_212 : decode cX11_back 212 = .ok (.aload_n 0, 1) := by decide +kernel
theorem dX11_back_213 : decode cX11_back 213 = .ok (.getfield 42, 3) := by decide +kernel
theorem dX11_back_216 : decode cX11_back 216 = .ok (.iconst 0, 1) := by decide +kernel
theorem dX11_back_217 : decode cX11_back 217 = .ok (.lload 8, 2) := by decide +kernel
theorem dX11_back_219 : decode cX11_back 219 = .ok (.lload 5, 2) := by decide +kernel
theorem dX11_back_221 : decode cX11_back 221 = .ok (.lmul, 1) := by decide +kernel
theorem dX11_back_222 : decode cX11_back 222 = .ok (.iload_n 3, 1) := by decide +kernel
theorem dX11_back_223 : decode cX11_back 223 = .ok (.i2l, 1) := by decide +kernel
theorem dX11_back_224 : decode cX11_back 224 = .ok (.lrem, 1) := by decide +kernel
theorem dX11_back_225 : decode cX11_back 225 = .ok (.lastore, 1) := by decide +kernel
theorem dX11_back_226 : decode cX11_back 226 = .ok (.iinc 7 1, 3) := by decide +kernel
theorem dX11_back_229 : decode cX11_back 229 = .ok (.goto (-125), 3) := by decide +kernel
theorem dX11_back_232 : decode cX11_back 232 = .ok (.aload_n 0, 1) := by decide +kernel
theorem dX11_back_233 : decode cX11_back 233 = .ok (.getfield 42, 3) := by decide +kernel
theorem dX11_back_236 : decode cX11_back 236 = .ok (.iconst 0, 1) := by decide +kernel
theorem dX11_back_237 : decode cX11_back 237 = .ok (.laload, 1) := by decide +kernel
theorem dX11_back_238 : decode cX11_back 238 = .ok (.l2i, 1) := by decide +kernel
theorem dX11_back_239 : decode cX11_back 239 = .ok (.ireturn, 1) := by decide +kernel
theorem dX11_isPrime_0 : decode cX11_isPrime 0 = .ok (.iload_n 0, 1) := by decide +kernel
theorem dX11_isPrime_1 : decode cX11_isPrime 1 = .ok (.i2l, 1) := by decide +kernel
theorem dX11_isPrime_2 : decode cX11_isPrime 2 = .ok (.ldc2_w 134, 3) := by decide +kernel
theorem dX11_isPrime_5 : decode cX11_isPrime 5 = .ok (.ldc2_w 202, 3) := by decide +kernel
theorem dX11_isPrime_8 : decode cX11_isPrime 8 = .ok (.invokestatic 80, 3) := by decide +kernel
theorem dX11_isPrime_11 : decode cX11_isPrime 11 = .ok (.istore_n 1, 1) := by decide +kernel
theorem dX11_isPrime_12 : decode cX11_isPrime 12 = .ok (.iconst 2, 1) := by decide +kernel
theorem dX11_isPrime_13 : decode cX11_isPrime 13 = .ok (.istore_n 2, 1) := by decide +kernel
theorem dX11_isPrime_14 : decode cX11_isPrime 14 = .ok (.iload_n 1, 1) := by decide +kernel
theorem dX11_isPrime_15 : decode cX11_isPrime 15 = .ok (.ifCond .eq 28, 3) := by decide +kernel
theorem dX11_isPrime_18 : decode cX11_isPrime 18 = .ok (.iload_n 2, 1) := by decide +kernel
theorem dX11_isPrime_19 : decode cX11_isPrime 19 = .ok (.iload_n 2, 1) := by decide +kernel
theorem dX11_isPrime_20 : decode cX11_isPrime 20 = .ok (.imul, 1) := by decide +kernel
theorem dX11_isPrime_21 : decode cX11_isPrime 21 = .ok (.iload_n 0, 1) := by decide +kernel
theorem dX11_isPrime_22 : decode cX11_isPrime 22 = .ok (.if_icmp .gt 21, 3) := by decide +kernel
theorem dX11_isPrime_25 : decode cX11_isPrime 25 = .ok (.iload_n 0, 1) := by decide +kernel
theorem dX11_isPrime_26 : decode cX11_isPrime 26 = .ok (.iload_n 2, 1) := by decide +kernel
theorem dX11_isPrime_27 : decode cX11_isPrime 27 = .ok (.irem, 1) := by decide +kernel
theorem dX11_isPrime_28 : decode cX11_isPrime 28 = .ok (.ifCond .eq 7, 3) := by decide +kernel
theorem dX11_isPrime_31 : decode cX11_isPrime 31 = .ok (.iconst 1, 1) := by decide +kernel
theorem dX11_isPrime_32 : decode cX11_isPrime 32 = .ok (.goto 4, 3) := by decide +kernel
theorem dX11_isPrime_35 : decode cX11_isPrime 35 = .ok (.iconst 0, 1) := by decide +kernel
theorem dX11_isPrime_36 : decode cX11_isPrime 36 = .ok (.istore_n 1, 1) := by decide +kernel
theorem dX11_isPrime_37 : decode cX11_isPrime 37 = .ok (.iinc 2 1, 3) := by decide +kernel
theorem dX11_isPrime_40 : decode cX11_isPrime 40 = .ok (.goto (-26), 3) := by decide +kernel
theorem dX11_isPrime_43 : decode cX11_isPrime 43 = .ok (.iload_n 1, 1) := by decide +kernel
theorem dX11_isPrime_44 : decode cX11_isPrime 44 = .ok (.ireturn, 1) := by decide +kernel
theorem dX11_isRoot_0 : decode cX11_isRoot 0 = .ok (.lconst 1, 1) := by decide +kernel
theorem dX11_isRoot_1 : decode cX11_isRoot 1 = .ok (.lstore 4, 2) := by decide +kernel
theorem dX11_isRoot_3 : decode cX11_isRoot 3 = .ok (.iconst 1, 1) := by decide +kernel
theorem dX11_isRoot_4 : decode cX11_isRoot 4 = .ok (.istore 6, 2) := by decide +kernel
theorem dX11_isRoot_6 : decode cX11_isRoot 6 = .ok (.iload 6, 2) := by decide +kernel
theorem dX11_isRoot_8 : decode cX11_isRoot 8 = .ok (.aload_n 0, 1) := by decide +kernel
theorem dX11_isRoot_9 : decode cX11_isRoot 9 = .ok (.getfield 7, 3) := by decide +kernel
theorem dX11_isRoot_12 : decode cX11_isRoot 12 = .ok (.iload_n 1, 1) := by decide +kernel
theorem dX11_isRoot_13 : decode cX11_isRoot 13 = .ok (.iaload, 1) := by decide +kernel
theorem dX11_isRoot_14 : decode cX11_isRoot 14 = .ok (.if_icmp .gt 36, 3) := by decide +kernel
theorem dX11_isRoot_17 : decode cX11_isRoot 17 = .ok (.lload 4, 2) := by decide +kernel
theorem dX11_isRoot_19 : decode cX11_isRoot 19 = .ok (.iload_n 3, 1) := by decide +kernel
theorem dX11_isRoot_20 : decode cX11_isRoot 20 = .ok (.i2l, 1) := by decide +kernel
theorem dX11_isRoot_21 : decode cX11_isRoot 21 = .ok (.lmul, 1) := by decide +kernel
theorem dX11_isRoot_22 : decode cX11_isRoot 22 = .ok (.aload_n 0, 1) := by decide +kernel
theorem dX11_isRoot_23 : decode cX11_isRoot 23 = .ok (.getfield 13, 3) := by decide +kernel
theorem dX11_isRoot_26 : decode cX11_isRoot 26 = .ok (.bipush 6, 2) := by decide +kernel
theorem dX11_isRoot_28 : decode cX11_isRoot 28 = .ok (.iload_n 1, 1) := by decide +kernel
theorem dX11_isRoot_29 : decode cX11_isRoot 29 = .ok (.imul, 1) := by decide +kernel
theorem dX11_isRoot_30 : decode cX11_isRoot 30 = .ok (.iload 6, 2) := by decide +kernel
theorem dX11_isRoot_32 : decode cX11_isRoot 32 = .ok (.iadd, 1) := by decide +kernel
theorem dX11_isRoot_33 : decode cX11_isRoot 33 = .ok (.iconst 1, 1) := by decide +kernel
theorem dX11_isRoot_34 : decode cX11_isRoot 34 = .ok (.isub, 1) := by decide +kernel
theorem dX11_isRoot_35 : decode cX11_isRoot 35 = .ok (.laload, 1) := by decide +kernel
theorem dX11_isRoot_36 : decode cX11_isRoot 36 = .ok (.lsub, 1) := by decide +kernel
theorem dX11_isRoot_37 : decode cX11_isRoot 37 = .ok (.iload_n 2, 1) := by decide +kernel
theorem dX11_isRoot_38 : decode cX11_isRoot 38 = .ok (.i2l, 1) := by decide +kernel
theorem dX11_isRoot_39 : decode cX11_isRoot 39 = .ok (.invokestatic 156, 3) := by decide +kernel
theorem dX11_isRoot_42 : decode cX11_isRoot 42 = .ok (.lstore 4, 2) := by decide +kernel
theorem dX11_isRoot_44 : decode cX11_isRoot 44 = .ok (.iinc 6 1, 3) := by decide +kernel
theorem dX11_isRoot_47 : decode cX11_isRoot 47 = .ok (.goto (-41), 3) := by decide +kernel
theorem dX11_isRoot_50 : decode cX11_isRoot 50 = .ok (.lload 4, 2) := by decide +kernel
theorem dX11_isRoot_52 : decode cX11_isRoot 52 = .ok (.lconst 0, 1) := by decide +kernel
theorem dX11_isRoot_53 : decode cX11_isRoot 53 = .ok (.lcmp, 1) := by decide +kernel
theorem dX11_isRoot_54 : decode cX11_isRoot 54 = .ok (.ifCond .ne 7, 3) := by decide +kernel
theorem dX11_isRoot_57 : decode cX11_isRoot 57 = .ok (.iconst 1, 1) := by decide +kernel
theorem dX11_isRoot_58 : decode cX11_isRoot 58 = .ok (.goto 4, 3) := by decide +kernel
theorem dX11_isRoot_61 : decode cX11_isRoot 61 = .ok (.iconst 0, 1) := by decide +kernel
theorem dX11_isRoot_62 : decode cX11_isRoot 62 = .ok (.ireturn, 1) := by decide +kernel
theorem dX11_roots_0 : decode cX11_roots 0 = .ok (.iload_n 1, 1) := by decide +kernel
theorem dX11_roots_1 : decode cX11_roots 1 = .ok (.invokestatic 127, 3) := by decide +kernel
theorem dX11_roots_4 : decode cX11_roots 4 = .ok (.ifCond .eq 15, 3) := by decide +kernel
theorem dX11_roots_7 : decode cX11_roots 7 = .ok (.iload_n 2, 1) := by decide +kernel
theorem dX11_roots_8 : decode cX11_roots 8 = .ok (.invokestatic 204, 3) := by decide +kernel
theorem dX11_roots_11 : decode cX11_roots 11 = .ok (.ifCond .eq 8, 3) := by decide +kernel
theorem dX11_roots_14 : decode cX11_roots 14 = .ok (.iload_n 3, 1) := by decide +kernel
theorem dX11_roots_15 : decode cX11_roots 15 = .ok (.iconst (-1), 1) := by decide +kernel
theorem dX11_roots_16 : decode cX11_roots 16 = .ok (.if_icmp .ge 5, 3) := by decide +kernel
theorem dX11_roots_19 : decode cX11_roots 19 = .ok (.iconst (-1), 1) := by decide +kernel
theorem dX11_roots_20 : decode cX11_roots 20 = .ok (.ireturn, 1) := by decide +kernel
theorem dX11_roots_21 : decode cX11_roots 21 = .ok (.iconst 0, 1) := by decide +kernel
theorem dX11_roots_22 : decode cX11_roots 22 = .ok (.istore 4, 2) := by decide +kernel
theorem dX11_roots_24 : decode cX11_roots 24 = .ok (.iconst 0, 1) := by decide +kernel
theorem dX11_roots_25 : decode cX11_roots 25 = .ok (.istore 5, 2) := by decide +kernel
theorem dX11_roots_27 : decode cX11_roots 27 = .ok (.iload 5, 2) := by decide +kernel
theorem dX11_roots_29 : decode cX11_roots 29 = .ok (.iload_n 2, 1) := by decide +kernel
theorem dX11_roots_30 : decode cX11_roots 30 = .ok (.if_icmp .ge 32, 3) := by decide +kernel
theorem dX11_roots_33 : decode cX11_roots 33 = .ok (.aload_n 0, 1) := by decide +kernel
theorem dX11_roots_34 : decode cX11_roots 34 = .ok (.iload_n 1, 1) := by decide +kernel
theorem dX11_roots_35 : decode cX11_roots 35 = .ok (.iload_n 2, 1) := by decide +kernel
theorem dX11_roots_36 : decode cX11_roots 36 = .ok (.iload 5, 2) := by decide +kernel
theorem dX11_roots_38 : decode cX11_roots 38 = .ok (.invokevirtual 207, 3) := by decide +kernel
theorem dX11_roots_41 : decode cX11_roots 41 = .ok (.ifCond .eq 15, 3) := by decide +kernel
theorem dX11_roots_44 : decode cX11_roots 44 = .ok (.iload 4, 2) := by decide +kernel
theorem dX11_roots_46 : decode cX11_roots 46 = .ok (.iload_n 3, 1) := by decide +kernel
theorem dX11_roots_47 : decode cX11_roots 47 = .ok (.if_icmp .ne 6, 3) := by decide +kernel
theorem dX11_roots_50 : decode cX11_roots 50 = .ok (.iload 5, 2) := by decide +kernel
theorem dX11_roots_52 : decode cX11_roots 52 = .ok (.ireturn, 1) := by decide +kernel
theorem dX11_roots_53 : decode cX11_roots 53 = .ok (.iinc 4 1, 3) := by decide +kernel
theorem dX11_roots_56 : decode cX11_roots 56 = .ok (.iinc 5 1, 3) := by decide +kernel
theorem dX11_roots_59 : decode cX11_roots 59 = .ok (.goto (-32), 3) := by decide +kernel
theorem dX11_roots_62 : decode cX11_roots 62 = .ok (.iload_n 3, 1) := by decide +kernel
theorem dX11_roots_63 : decode cX11_roots 63 = .ok (.ifCond .ge 8, 3) := by decide +kernel
theorem dX11_roots_66 : decode cX11_roots 66 = .ok (.iload 4, 2) := by decide +kernel
theorem dX11_roots_68 : decode cX11_roots 68 = .ok (.goto 5, 3) := by decide +kernel
theorem dX11_roots_71 : decode cX11_roots 71 = .ok (.bipush (-4), 2) := by decide +kernel
theorem dX11_roots_73 : decode cX11_roots 73 = .ok (.ireturn, 1) := by decide +kernel
theorem dX11_longest_0 : decode cX11_longest 0 = .ok (.iload_n 1, 1) := by decide +kernel
theorem dX11_longest_1 : decode cX11_longest 1 = .ok (.i2l, 1) := by decide +kernel
theorem dX11_longest_2 : decode cX11_longest 2 = .ok (.lconst 1, 1) := by decide +kernel
theorem dX11_longest_3 : decode cX11_longest 3 = .ok (.ldc2_w 211, 3) := by decide +kernel
theorem dX11_longest_6 : decode cX11_longest 6 = .ok (.invokestatic 80, 3) := by decide +kernel
theorem dX11_longest_9 : decode cX11_longest 9 = .ok (.ifCond .eq 36, 3) := by decide +kernel
theorem dX11_longest_12 : decode cX11_longest 12 = .ok (.iload_n 2, 1) := by decide +kernel
theorem dX11_longest_13 : decode cX11_longest 13 = .ok (.i2l, 1) := by decide +kernel
theorem dX11_longest_14 : decode cX11_longest 14 = .ok (.ldc2_w 134, 3) := by decide +kernel
theorem dX11_longest_17 : decode cX11_longest 17 = .ok (.ldc2_w 213, 3) := by decide +kernel
theorem dX11_longest_20 : decode cX11_longest 20 = .ok (.invokestatic 80, 3) := by decide +kernel
theorem dX11_longest_23 : decode cX11_longest 23 = .ok (.ifCond .eq 22, 3) := by decide +kernel
theorem dX11_longest_26 : decode cX11_longest 26 = .ok (.iload_n 2, 1) := by decide +kernel
theorem dX11_longest_27 : decode cX11_longest 27 = .ok (.invokestatic 204, 3) := by decide +kernel
theorem dX11_longest_30 : decode cX11_longest 30 = .ok (.ifCond .eq 15, 3) := by decide +kernel
theorem dX11_longest_33 : decode cX11_longest 33 = .ok (.iload_n 3, 1) := by decide +kernel
theorem dX11_longest_34 : decode cX11_longest 34 = .ok (.i2l, 1) := by decide +kernel
theorem dX11_longest_35 : decode cX11_longest 35 = .ok (.lconst 0, 1) := by decide +kernel
theorem dX11_longest_36 : decode cX11_longest 36 = .ok (.ldc2_w 215, 3) := by decide +kernel
theorem dX11_longest_39 : decode cX11_longest 39 = .ok (.invokestatic 80, 3) := by decide +kernel
theorem dX11_longest_42 : decode cX11_longest 42 = .ok (.ifCond .ne 5, 3) := by decide +kernel
theorem dX11_longest_45 : decode cX11_longest 45 = .ok (.iconst (-1), 1) := by decide +kernel
theorem dX11_longest_46 : decode cX11_longest 46 = .ok (.ireturn, 1) := by decide +kernel
theorem dX11_longest_47 : decode cX11_longest 47 = .ok (.iload_n 3, 1) := by decide +kernel
theorem dX11_longest_48 : decode cX11_longest 48 = .ok (.iconst 1, 1) := by decide +kernel
theorem dX11_longest_49 : decode cX11_longest 49 = .ok (.if_icmp .le 13, 3) := by decide +kernel
theorem dX11_longest_52 : decode cX11_longest 52 = .ok (.iload_n 3, 1) := by decide +kernel
theorem dX11_longest_53 : decode cX11_longest 53 = .ok (.iconst 1, 1) := by decide +kernel
theorem dX11_longest_54 : decode cX11_longest 54 = .ok (.isub, 1) := by decide +kernel
theorem dX11_longest_55 : decode cX11_longest 55 = .ok (.iload_n 1, 1) := by decide +kernel
theorem dX11_longest_56 : decode cX11_longest 56 = .ok (.if_icmp .le 6, 3) := by decide +kernel
theorem dX11_longest_59 : decode cX11_longest 59 = .ok (.bipush (-4), 2) := by decide +kernel
theorem dX11_longest_61 : decode cX11_longest 61 = .ok (.ireturn, 1) := by decide +kernel
theorem dX11_longest_62 : decode cX11_longest 62 = .ok (.aload_n 0, 1) := by decide +kernel
theorem dX11_longest_63 : decode cX11_longest 63 = .ok (.getfield 7, 3) := by decide +kernel
theorem dX11_longest_66 : decode cX11_longest 66 = .ok (.bipush 6, 2) := by decide +kernel
theorem dX11_longest_68 : decode cX11_longest 68 = .ok (.iload_n 1, 1) := by decide +kernel
theorem dX11_longest_69 : decode cX11_longest 69 = .ok (.iastore, 1) := by decide +kernel
theorem dX11_longest_70 : decode cX11_longest 70 = .ok (.iload_n 2, 1) := by decide +kernel
theorem dX11_longest_71 : decode cX11_longest 71 = .ok (.istore 4, 2) := by decide +kernel
theorem dX11_longest_73 : decode cX11_longest 73 = .ok (.iconst 0, 1) := by decide +kernel
theorem dX11_longest_74 : decode cX11_longest 74 = .ok (.istore 5, 2) := by decide +kernel
theorem dX11_longest_76 : decode cX11_longest 76 = .ok (.iload 5, 2) := by decide +kernel
theorem dX11_longest_78 : decode cX11_longest 78 = .ok (.bipush 6, 2) := by decide +kernel
theorem dX11_longest_80 : decode cX11_longest 80 = .ok (.if_icmp .ge 53, 3) := by decide +kernel
theorem dX11_longest_83 : decode cX11_longest 83 = .ok (.aload_n 0, 1) := by decide +kernel
theorem dX11_longest_84 : decode cX11_longest 84 = .ok (.getfield 17, 3) := by decide +kernel
theorem dX11_longest_87 : decode cX11_longest 87 = .ok (.bipush 36, 2) := by decide +kernel
theorem dX11_longest_89 : decode cX11_longest 89 = .ok (.iload 5, 2) := by decide +kernel
theorem dX11_longest_91 : decode cX11_longest 91 = .ok (.iadd, 1) := by decide +kernel
theorem dX11_longest_92 : decode cX11_longest 92 = .ok (.iload 5, 2) := by decide +kernel
theorem dX11_longest_94 : decode cX11_longest 94 = .ok (.iload_n 1, 1) := by decide +kernel
theorem dX11_longest_95 : decode cX11_longest 95 = .ok (.iconst 1, 1) := by decide +kernel
theorem dX11_longest_96 : decode cX11_longest 96 = .ok (.isub, 1) := by decide +kernel
theorem dX11_longest_97 : decode cX11_longest 97 = .ok (.if_icmp .ne 7, 3) := by decide +kernel
theorem dX11_longest_100 : decode cX11_longest 100 = .ok (.lconst 1, 1) := by decide +kernel
theorem dX11_longest_101 : decode cX11_longest 101 = .ok (.goto 4, 3) := by decide +kernel
theorem dX11_longest_104 : decode cX11_longest 104 = .ok (.lconst 0, 1) := by decide +kernel
theorem dX11_longest_105 : decode cX11_longest 105 = .ok (.lastore, 1) := by decide +kernel
theorem dX11_longest_106 : decode cX11_longest 106 = .ok (.iload 4, 2) := by decide +kernel
theorem dX11_longest_108 : decode cX11_longest 108 = .ok (.iload 5, 2) := by decide +kernel
theorem dX11_longest_110 : decode cX11_longest 110 = .ok (.ifCond .le 13, 3) := by decide +kernel
theorem dX11_longest_113 : decode cX11_longest 113 = .ok (.iload 5, 2) := by decide +kernel
theorem dX11_longest_115 : decode cX11_longest 115 = .ok (.iload_n 1, 1) := by decide +kernel
theorem dX11_longest_116 : decode cX11_longest 116 = .ok (.if_icmp .ge 7, 3) := by decide +kernel
theorem dX11_longest_119 : decode cX11_longest 119 = .ok (.iload_n 2, 1) := by decide +kernel
theorem dX11_longest_120 : decode cX11_longest 120 = .ok (.goto 4, 3) := by decide +kernel
theorem dX11_longest_123 : decode cX11_longest 123 = .ok (.iconst 1, 1) := by decide +kernel
theorem dX11_longest_124 : decode cX11_longest 124 = .ok (.imul, 1) := by decide +kernel
theorem dX11_longest_125 : decode cX11_longest 125 = .ok (.istore 4, 2) := by decide +kernel
theorem dX11_longest_127 : decode cX11_longest 127 = .ok (.iinc 5 1, 3) := by decide +kernel
theorem dX11_longest_130 : decode cX11_longest 130 = .ok (.goto (-54), 3) := by decide +kernel
theorem dX11_longest_133 : decode cX11_longest 133 = .ok (.iconst 0, 1) := by decide +kernel
theorem dX11_longest_134 : decode cX11_longest 134 = .ok (.istore 5, 2) := by decide +kernel
theorem dX11_longest_136 : decode cX11_longest 136 = .ok (.iconst 0, 1) := by decide +kernel
theorem dX11_longest_137 : decode cX11_longest 137 = .ok (.istore 6, 2) := by decide +kernel
theorem dX11_longest_139 : decode cX11_longest 139 = .ok (.iconst 0, 1) := by decide +kernel
theorem dX11_longest_140 : decode cX11_longest 140 = .ok (.istore 7, 2) := by decide +kernel
theorem dX11_longest_142 : decode cX11_longest 142 = .ok (.iconst 0, 1) := by decide +kernel
theorem dX11_longest_143 : decode cX11_longest 143 = .ok (.istore 8, 2) := by decide +kernel
theorem dX11_longest_145 : decode cX11_longest 145 = .ok (.iload 8, 2) := by decide +kernel
theorem dX11_longest_147 : decode cX11_longest 147 = .ok (.iload 4, 2) := by decide +kernel
theorem dX11_longest_149 : decode cX11_longest 149 = .ok (.if_icmp .ge 73, 3) := by decide +kernel
theorem dX11_longest_152 : decode cX11_longest 152 = .ok (.iload 8, 2) := by decide +kernel
theorem dX11_longest_154 : decode cX11_longest 154 = .ok (.iload_n 2, 1) := by decide +kernel
theorem dX11_longest_155 : decode cX11_longest 155 = .ok (.irem, 1) := by decide +kernel
theorem dX11_longest_156 : decode cX11_longest 156 = .ok (.ifCond .eq 60, 3) := by decide +kernel
theorem dX11_longest_159 : decode cX11_longest 159 = .ok (.aload_n 0, 1) := by decide +kernel
theorem dX11_longest_160 : decode cX11_longest 160 = .ok (.iload 8, 2) := by decide +kernel
theorem dX11_longest_162 : decode cX11_longest 162 = .ok (.iload_n 1, 1) := by decide +kernel
theorem dX11_longest_163 : decode cX11_longest 163 = .ok (.iload_n 2, 1) := by decide +kernel
theorem dX11_longest_164 : decode cX11_longest 164 = .ok (.invokevirtual 217, 3) := by decide +kernel
theorem dX11_longest_167 : decode cX11_longest 167 = .ok (.aload_n 0, 1) := by decide +kernel
theorem dX11_longest_168 : decode cX11_longest 168 = .ok (.bipush 6, 2) := by decide +kernel
theorem dX11_longest_170 : decode cX11_longest 170 = .ok (.iload_n 2, 1) := by decide +kernel
theorem dX11_longest_171 : decode cX11_longest 171 = .ok (.invokevirtual 188, 3) := by decide +kernel
theorem dX11_longest_174 : decode cX11_longest 174 = .ok (.pop, 1) := by decide +kernel
theorem dX11_longest_175 : decode cX11_longest 175 = .ok (.aload_n 0, 1) := by decide +kernel
theorem dX11_longest_176 : decode cX11_longest 176 = .ok (.getfield 175, 3) := by decide +kernel
theorem dX11_longest_179 : decode cX11_longest 179 = .ok (.iload 5, 2) := by decide +kernel
theorem dX11_longest_181 : decode cX11_longest 181 = .ok (.if_icmp .le 16, 3) := by decide +kernel
theorem dX11_longest_184 : decode cX11_longest 184 = .ok (.aload_n 0, 1) := by decide +kernel
theorem dX11_longest_185 : decode cX11_longest 185 = .ok (.getfield 175, 3) := by decide +kernel
theorem dX11_longest_188 : decode cX11_longest 188 = .ok (.istore 5, 2) := by decide +kernel
theorem dX11_longest_190 : decode cX11_longest 190 = .ok (.iconst 0, 1) := by decide +kernel
theorem dX11_longest_191 : decode cX11_longest 191 = .ok (.istore 6, 2) := by decide +kernel
theorem dX11_longest_193 : decode cX11_longest 193 = .ok (.iload 8, 2) := by decide +kernel
theorem dX11_longest_195 : decode cX11_longest 195 = .ok (.istore 7, 2) := by decide +kernel
theorem dX11_longest_197 : decode cX11_longest 197 = .ok (.iload 6, 2) := by decide +kernel
theorem dX11_longest_199 : decode cX11_longest 199 = .ok (.aload_n 0, 1) := by decide +kernel
theorem dX11_longest_200 : decode cX11_longest 200 = .ok (.getfield 175, 3) := by decide +kernel
theorem dX11_longest_203 : decode cX11_longest 203 = .ok (.iload 5, 2) := by decide +kernel
theorem dX11_longest_205 : decode cX11_longest 205 = .ok (.if_icmp .ne 7, 3) := by decide +kernel
theorem dX11_longest_208 : decode cX11_longest 208 = .ok (.iconst 1, 1) := by decide +kernel
theorem dX11_longest_209 : decode cX11_longest 209 = .ok (.goto 4, 3) := by decide +kernel
theorem dX11_longest_212 : decode cX11_longest 212 = .ok (.iconst 0, 1) := by decide +kernel
theorem dX11_longest_213 : decode cX11_longest 213 = .ok (.iadd, 1) := by decide +kernel
theorem dX11_longest_214 : decode cX11_longest 214 = .ok (.istore 6, 2) := by decide +kernel
theorem dX11_longest_216 : decode cX11_longest 216 = .ok (.iinc 8 1, 3) := by decide +kernel
theorem dX11_longest_219 : decode cX11_longest 219 = .ok (.goto (-74), 3) := by decide +kernel
theorem dX11_longest_222 : decode cX11_longest 222 = .ok (.aload_n 0, 1) := by decide +kernel
theorem dX11_longest_223 : decode cX11_longest 223 = .ok (.iload 7, 2) := by decide +kernel
theorem dX11_longest_225 : decode cX11_longest 225 = .ok (.iload_n 1, 1) := by decide +kernel
theorem dX11_longest_226 : decode cX11_longest 226 = .ok (.iload_n 2, 1) := by decide +kernel
theorem dX11_longest_227 : decode cX11_longest 227 = .ok (.invokevirtual 217, 3) := by decide +kernel
theorem dX11_longest_230 : decode cX11_longest 230 = .ok (.iload_n 3, 1) := by decide +kernel
theorem dX11_longest_231 : decode cX11_longest 231 = .ok (.ifCond .ne 8, 3) := by decide +kernel
theorem dX11_longest_234 : decode cX11_longest 234 = .ok (.iload 6, 2) := by decide +kernel
theorem dX11_longest_236 : decode cX11_longest 236 = .ok (.goto 25, 3) := by decide +kernel
theorem dX11_longest_239 : decode cX11_longest 239 = .ok (.iload_n 3, 1) := by decide +kernel
theorem dX11_longest_240 : decode cX11_longest 240 = .ok (.iconst 1, 1) := by decide +kernel
theorem dX11_longest_241 : decode cX11_longest 241 = .ok (.if_icmp .ne 8, 3) := by decide +kernel
theorem dX11_longest_244 : decode cX11_longest 244 = .ok (.iload 5, 2) := by decide +kernel
theorem dX11_longest_246 : decode cX11_longest 246 = .ok (.goto 15, 3) := by decide +kernel
theorem dX11_longest_249 : decode cX11_longest 249 = .ok (.aload_n 0, 1) := by decide +kernel
theorem dX11_longest_250 : decode cX11_longest 250 = .ok (.getfield 13, 3) := by decide +kernel
theorem dX11_longest_253 : decode cX11_longest 253 = .ok (.bipush 36, 2) := by decide +kernel
theorem dX11_longest_255 : decode cX11_longest 255 = .ok (.iload_n 3, 1) := by decide +kernel
theorem dX11_longest_256 : decode cX11_longest 256 = .ok (.iadd, 1) := by decide +kernel
theorem dX11_longest_257 : decode cX11_longest 257 = .ok (.iconst 2, 1) := by decide +kernel
theorem dX11_longest_258 : decode cX11_longest 258 = .ok (.isub, 1) := by decide +kernel
theorem dX11_longest_259 : decode cX11_longest 259 = .ok (.laload, 1) := by decide +kernel
theorem dX11_longest_260 : decode cX11_longest 260 = .ok (.l2i, 1) := by decide +kernel
theorem dX11_longest_261 : decode cX11_longest 261 = .ok (.ireturn, 1) := by decide +kernel
theorem dX11_layCode_0 : decode cX11_layCode 0 = .ok (.iload_n 1, 1) := by decide +kernel
theorem dX11_layCode_1 : decode cX11_layCode 1 = .ok (.istore 4, 2) := by decide +kernel
theorem dX11_layCode_3 : decode cX11_layCode 3 = .ok (.iload_n 2, 1) := by decide +kernel
theorem dX11_layCode_4 : decode cX11_layCode 4 = .ok (.iconst 1, 1) := by decide +kernel
theorem dX11_layCode_5 : decode cX11_layCode 5 = .ok (.isub, 1) := by decide +kernel
theorem dX11_layCode_6 : decode cX11_layCode 6 = .ok (.istore 5, 2) := by decide +kernel
theorem dX11_layCode_8 : decode cX11_layCode 8 = .ok (.iload 5, 2) := by decide +kernel
theorem dX11_layCode_10 : decode cX11_layCode 10 = .ok (.ifCond .lt 30, 3) := by decide +kernel
theorem dX11_layCode_13 : decode cX11_layCode 13 = .ok (.aload_n 0, 1) := by decide +kernel
theorem dX11_layCode_14 : decode cX11_layCode 14 = .ok (.getfield 13, 3) := by decide +kernel
theorem dX11_layCode_17 : decode cX11_layCode 17 = .ok (.bipush 36, 2) := by decide +kernel
theorem dX11_layCode_19 : decode cX11_layCode 19 = .ok (.iload 5, 2) := by decide +kernel
theorem dX11_layCode_21 : decode cX11_layCode 21 = .ok (.iadd, 1) := by decide +kernel
theorem dX11_layCode_22 : decode cX11_layCode 22 = .ok (.iload 4, 2) := by decide +kernel
theorem dX11_layCode_24 : decode cX11_layCode 24 = .ok (.iload_n 3, 1) := by decide +kernel
theorem dX11_layCode_25 : decode cX11_layCode 25 = .ok (.irem, 1) := by decide +kernel
theorem dX11_layCode_26 : decode cX11_layCode 26 = .ok (.i2l, 1) := by decide +kernel
theorem dX11_layCode_27 : decode cX11_layCode 27 = .ok (.lastore, 1) := by decide +kernel
theorem dX11_layCode_28 : decode cX11_layCode 28 = .ok (.iload 4, 2) := by decide +kernel
theorem dX11_layCode_30 : decode cX11_layCode 30 = .ok (.iload_n 3, 1) := by decide +kernel
theorem dX11_layCode_31 : decode cX11_layCode 31 = .ok (.idiv, 1) := by decide +kernel
theorem dX11_layCode_32 : decode cX11_layCode 32 = .ok (.istore 4, 2) := by decide +kernel
theorem dX11_layCode_34 : decode cX11_layCode 34 = .ok (.iinc 5 (-1), 3) := by decide +kernel
theorem dX11_layCode_37 : decode cX11_layCode 37 = .ok (.goto (-29), 3) := by decide +kernel
theorem dX11_layCode_40 : decode cX11_layCode 40 = .ok (.return_, 1) := by decide +kernel
theorem dX11_prime_0 : decode cX11_prime 0 = .ok (.iload_n 1, 1) := by decide +kernel
theorem dX11_prime_1 : decode cX11_prime 1 = .ok (.invokestatic 204, 3) := by decide +kernel
theorem dX11_prime_4 : decode cX11_prime 4 = .ok (.ifCond .ne 5, 3) := by decide +kernel
theorem dX11_prime_7 : decode cX11_prime 7 = .ok (.iconst (-1), 1) := by decide +kernel
theorem dX11_prime_8 : decode cX11_prime 8 = .ok (.ireturn, 1) := by decide +kernel
theorem dX11_prime_9 : decode cX11_prime 9 = .ok (.aload_n 0, 1) := by decide +kernel
theorem dX11_prime_10 : decode cX11_prime 10 = .ok (.getfield 221, 3) := by decide +kernel
theorem dX11_prime_13 : decode cX11_prime 13 = .ok (.istore_n 2, 1) := by decide +kernel
theorem dX11_prime_14 : decode cX11_prime 14 = .ok (.aload_n 0, 1) := by decide +kernel
theorem dX11_prime_15 : decode cX11_prime 15 = .ok (.iload_n 1, 1) := by decide +kernel
theorem dX11_prime_16 : decode cX11_prime 16 = .ok (.putfield 23, 3) := by decide +kernel
theorem dX11_prime_19 : decode cX11_prime 19 = .ok (.aload_n 0, 1) := by decide +kernel
theorem dX11_prime_20 : decode cX11_prime 20 = .ok (.iconst 0, 1) := by decide +kernel
theorem dX11_prime_21 : decode cX11_prime 21 = .ok (.putfield 221, 3) := by decide +kernel
theorem dX11_prime_24 : decode cX11_prime 24 = .ok (.iload_n 2, 1) := by decide +kernel
theorem dX11_prime_25 : decode cX11_prime 25 = .ok (.ireturn, 1) := by decide +kernel
theorem dX11_add_0 : decode cX11_add 0 = .ok (.iload_n 1, 1) := by decide +kernel
theorem dX11_add_1 : decode cX11_add 1 = .ok (.i2l, 1) := by decide +kernel
theorem dX11_add_2 : decode cX11_add 2 = .ok (.lconst 0, 1) := by decide +kernel
theorem dX11_add_3 : decode cX11_add 3 = .ok (.aload_n 0, 1) := by decide +kernel
theorem dX11_add_4 : decode cX11_add 4 = .ok (.getfield 23, 3) := by decide +kernel
theorem dX11_add_7 : decode cX11_add 7 = .ok (.iconst 1, 1) := by decide +kernel
theorem dX11_add_8 : decode cX11_add 8 = .ok (.isub, 1) := by decide +kernel
theorem dX11_add_9 : decode cX11_add 9 = .ok (.i2l, 1) := by decide +kernel
theorem dX11_add_10 : decode cX11_add 10 = .ok (.invokestatic 80, 3) := by decide +kernel
theorem dX11_add_13 : decode cX11_add 13 = .ok (.ifCond .ne 5, 3) := by decide +kernel
theorem dX11_add_16 : decode cX11_add 16 = .ok (.iconst (-1), 1) := by decide +kernel
theorem dX11_add_17 : decode cX11_add 17 = .ok (.ireturn, 1) := by decide +kernel
theorem dX11_add_18 : decode cX11_add 18 = .ok (.aload_n 0, 1) := by decide +kernel
theorem dX11_add_19 : decode cX11_add 19 = .ok (.getfield 221, 3) := by decide +kernel
theorem dX11_add_22 : decode cX11_add 22 = .ok (.bipush 40, 2) := by decide +kernel
theorem dX11_add_24 : decode cX11_add 24 = .ok (.if_icmp .ne 6, 3) := by decide +kernel
theorem dX11_add_27 : decode cX11_add 27 = .ok (.bipush (-3), 2) := by decide +kernel
theorem dX11_add_29 : decode cX11_add 29 = .ok (.ireturn, 1) := by decide +kernel
theorem dX11_add_30 : decode cX11_add 30 = .ok (.aload_n 0, 1) := by decide +kernel
theorem dX11_add_31 : decode cX11_add 31 = .ok (.getfield 27, 3) := by decide +kernel
theorem dX11_add_34 : decode cX11_add 34 = .ok (.aload_n 0, 1) := by decide +kernel
theorem dX11_add_35 : decode cX11_add 35 = .ok (.getfield 221, 3) := by decide +kernel
theorem dX11_add_38 : decode cX11_add 38 = .ok (.iload_n 1, 1) := by decide +kernel
theorem dX11_add_39 : decode cX11_add 39 = .ok (.iastore, 1) := by decide +kernel
theorem dX11_add_40 : decode cX11_add 40 = .ok (.aload_n 0, 1) := by decide +kernel
theorem dX11_add_41 : decode cX11_add 41 = .ok (.dup, 1) := by decide +kernel
theorem dX11_add_42 : decode cX11_add 42 = .ok (.getfield 221, 3) := by decide +kernel
theorem dX11_add_45 : decode cX11_add 45 = .ok (.iconst 1, 1) := by decide +kernel
theorem dX11_add_46 : decode cX11_add 46 = .ok (.iadd, 1) := by decide +kernel
theorem dX11_add_47 : decode cX11_add 47 = .ok (.putfield 221, 3) := by decide +kernel
theorem dX11_add_50 : decode cX11_add 50 = .ok (.aload_n 0, 1) := by decide +kernel
theorem dX11_add_51 : decode cX11_add 51 = .ok (.getfield 221, 3) := by decide +kernel
theorem dX11_add_54 : decode cX11_add 54 = .ok (.ireturn, 1) := by decide +kernel
theorem dX11_solve_0 : decode cX11_solve 0 = .ok (.aload_n 0, 1) := by decide +kernel
theorem dX11_solve_1 : decode cX11_solve 1 = .ok (.getfield 221, 3) := by decide +kernel
theorem dX11_solve_4 : decode cX11_solve 4 = .ok (.iload_n 1, 1) := by decide +kernel
theorem dX11_solve_5 : decode cX11_solve 5 = .ok (.isub, 1) := by decide +kernel
theorem dX11_solve_6 : decode cX11_solve 6 = .ok (.istore_n 2, 1) := by decide +kernel
theorem dX11_solve_7 : decode cX11_solve 7 = .ok (.iconst 0, 1) := by decide +kernel
theorem dX11_solve_8 : decode cX11_solve 8 = .ok (.istore_n 3, 1) := by decide +kernel
theorem dX11_solve_9 : decode cX11_solve 9 = .ok (.iload_n 3, 1) := by decide +kernel
theorem dX11_solve_10 : decode cX11_solve 10 = .ok (.iload_n 2, 1) := by decide +kernel
theorem dX11_solve_11 : decode cX11_solve 11 = .ok (.if_icmp .ge 66, 3) := by decide +kernel
theorem dX11_solve_14 : decode cX11_solve 14 = .ok (.iconst 0, 1) := by decide +kernel
theorem dX11_solve_15 : decode cX11_solve 15 = .ok (.istore 4, 2) := by decide +kernel
theorem dX11_solve_17 : decode cX11_solve 17 = .ok (.iload 4, 2) := by decide +kernel
theorem dX11_solve_19 : decode cX11_solve 19 = .ok (.iload_n 1, 1) := by decide +kernel
theorem dX11_solve_20 : decode cX11_solve 20 = .ok (.if_icmp .ge 31, 3) := by decide +kernel
theorem dX11_solve_23 : decode cX11_solve 23 = .ok (.aload_n 0, 1) := by decide +kernel
theorem dX11_solve_24 : decode cX11_solve 24 = .ok (.getfield 48, 3) := by decide +kernel
theorem dX11_solve_27 : decode cX11_solve 27 = .ok (.bipush 41, 2) := by decide +kernel
theorem dX11_solve_29 : decode cX11_solve 29 = .ok (.iload_n 3, 1) := by decide +kernel
theorem dX11_solve_30 : decode cX11_solve 30 = .ok (.imul, 1) := by decide +kernel
theorem dX11_solve_31 : decode cX11_solve 31 = .ok (.iload 4, 2) := by decide +kernel
theorem dX11_solve_33 : decode cX11_solve 33 = .ok (.iadd, 1) := by decide +kernel
theorem dX11_solve_34 : decode cX11_solve 34 = .ok (.aload_n 0, 1) := by decide +kernel
theorem dX11_solve_35 : decode cX11_solve 35 = .ok (.getfield 27, 3) := by decide +kernel
theorem dX11_solve_38 : decode cX11_solve 38 = .ok (.iload_n 3, 1) := by decide +kernel
theorem dX11_solve_39 : decode cX11_solve 39 = .ok (.iload 4, 2) := by decide +kernel
theorem dX11_solve_41 : decode cX11_solve 41 = .ok (.iadd, 1) := by decide +kernel
theorem dX11_solve_42 : decode cX11_solve 42 = .ok (.iaload, 1) := by decide +kernel
theorem dX11_solve_43 : decode cX11_solve 43 = .ok (.i2l, 1) := by decide +kernel
theorem dX11_solve_44 : decode cX11_solve 44 = .ok (.lastore, 1) := by decide +kernel
theorem dX11_solve_45 : decode cX11_solve 45 = .ok (.iinc 4 1, 3) := by decide +kernel
theorem dX11_solve_48 : decode cX11_solve 48 = .ok (.goto (-31), 3) := by decide +kernel
theorem dX11_solve_51 : decode cX11_solve 51 = .ok (.aload_n 0, 1) := by decide +kernel
theorem dX11_solve_52 : decode cX11_solve 52 = .ok (.getfield 48, 3) := by decide +kernel
theorem dX11_solve_55 : decode cX11_solve 55 = .ok (.bipush 41, 2) := by decide +kernel
theorem dX11_solve_57 : decode cX11_solve 57 = .ok (.iload_n 3, 1) := by decide +kernel
theorem dX11_solve_58 : decode cX11_solve 58 = .ok (.imul, 1) := by decide +kernel
theorem dX11_solve_59 : decode cX11_solve 59 = .ok (.iload_n 1, 1) := by decide +kernel
theorem dX11_solve_60 : decode cX11_solve 60 = .ok (.iadd, 1) := by decide +kernel
theorem dX11_solve_61 : decode cX11_solve 61 = .ok (.aload_n 0, 1) := by decide +kernel
theorem dX11_solve_62 : decode cX11_solve 62 = .ok (.getfield 27, 3) := by decide +kernel
theorem dX11_solve_65 : decode cX11_solve 65 = .ok (.iload_n 3, 1) := by decide +kernel
theorem dX11_solve_66 : decode cX11_solve 66 = .ok (.iload_n 1, 1) := by decide +kernel
theorem dX11_solve_67 : decode cX11_solve 67 = .ok (.iadd, 1) := by decide +kernel
theorem dX11_solve_68 : decode cX11_solve 68 = .ok (.iaload, 1) := by decide +kernel
theorem dX11_solve_69 : decode cX11_solve 69 = .ok (.i2l, 1) := by decide +kernel
theorem dX11_solve_70 : decode cX11_solve 70 = .ok (.lastore, 1) := by decide +kernel
theorem dX11_solve_71 : decode cX11_solve 71 = .ok (.iinc 3 1, 3) := by decide +kernel
theorem dX11_solve_74 : decode cX11_solve 74 = .ok (.goto (-65), 3) := by decide +kernel
theorem dX11_solve_77 : decode cX11_solve 77 = .ok (.iconst 0, 1) := by decide +kernel
theorem dX11_solve_78 : decode cX11_solve 78 = .ok (.istore_n 3, 1) := by decide +kernel
theorem dX11_solve_79 : decode cX11_solve 79 = .ok (.iconst 0, 1) := by decide +kernel
theorem dX11_solve_80 : decode cX11_solve 80 = .ok (.istore 4, 2) := by decide +kernel
theorem dX11_solve_82 : decode cX11_solve 82 = .ok (.iload 4, 2) := by decide +kernel
theorem dX11_solve_84 : decode cX11_solve 84 = .ok (.iload_n 1, 1) := by decide +kernel
theorem dX11_solve_85 : decode cX11_solve 85 = .ok (.if_icmp .ge 19, 3) := by decide +kernel
theorem dX11_solve_88 : decode cX11_solve 88 = .ok (.aload_n 0, 1) := by decide +kernel
theorem dX11_solve_89 : decode cX11_solve 89 = .ok (.getfield 51, 3) := by decide +kernel
theorem dX11_solve_92 : decode cX11_solve 92 = .ok (.iload 4, 2) := by decide +kernel
theorem dX11_solve_94 : decode cX11_solve 94 = .ok (.ldc2_w 224, 3) := by decide +kernel
theorem dX11_solve_97 : decode cX11_solve 97 = .ok (.lastore, 1) := by decide +kernel
theorem dX11_solve_98 : decode cX11_solve 98 = .ok (.iinc 4 1, 3) := by decide +kernel
theorem dX11_solve_101 : decode cX11_solve 101 = .ok (.goto (-19), 3) := by decide +kernel
theorem dX11_solve_104 : decode cX11_solve 104 = .ok (.iconst 0, 1) := by decide +kernel
theorem dX11_solve_105 : decode cX11_solve 105 = .ok (.istore 4, 2) := by decide +kernel
theorem dX11_solve_107 : decode cX11_solve 107 = .ok (.iload 4, 2) := by decide +kernel
theorem dX11_solve_109 : decode cX11_solve 109 = .ok (.iload_n 1, 1) := by decide +kernel
theorem dX11_solve_110 : decode cX11_solve 110 = .ok (.if_icmp .ge 269, 3) := by decide +kernel
theorem dX11_solve_113 : decode cX11_solve 113 = .ok (.iload_n 3, 1) := by decide +kernel
theorem dX11_solve_114 : decode cX11_solve 114 = .ok (.istore 5, 2) := by decide +kernel
theorem dX11_solve_116 : decode cX11_solve 116 = .ok (.iload 5, 2) := by decide +kernel
theorem dX11_solve_118 : decode cX11_solve 118 = .ok (.iload_n 2, 1) := by decide +kernel
theorem dX11_solve_119 : decode cX11_solve 119 = .ok (.if_icmp .ge 27, 3) := by decide +kernel
theorem dX11_solve_122 : decode cX11_solve 122 = .ok (.aload_n 0, 1) := by decide +kernel
theorem dX11_solve_123 : decode cX11_solve 123 = .ok (.getfield 48, 3) := by decide +kernel
theorem dX11_solve_126 : decode cX11_solve 126 = .ok (.bipush 41, 2) := by decide +kernel
theorem dX11_solve_128 : decode cX11_solve 128 = .ok (.iload 5, 2) := by decide +kernel
theorem dX11_solve_130 : decode cX11_solve 130 = .ok (.imul, 1) := by decide +kernel
theorem dX11_solve_131 : decode cX11_solve 131 = .ok (.iload 4, 2) := by decide +kernel
theorem dX11_solve_133 : decode cX11_solve 133 = .ok (.iadd, 1) := by decide +kernel
theorem dX11_solve_134 : decode cX11_solve 134 = .ok (.laload, 1) := by decide +kernel
theorem dX11_solve_135 : decode cX11_solve 135 = .ok (.lconst 0, 1) := by decide +kernel
theorem dX11_solve_136 : decode cX11_solve 136 = .ok (.lcmp, 1) := by decide +kernel
theorem dX11_solve_137 : decode cX11_solve 137 = .ok (.ifCond .ne 9, 3) := by decide +kernel
theorem dX11_solve_140 : decode cX11_solve 140 = .ok (.iinc 5 1, 3) := by decide +kernel
theorem dX11_solve_143 : decode cX11_solve 143 = .ok (.goto (-27), 3) := by decide +kernel
theorem dX11_solve_146 : decode cX11_solve 146 = .ok (.iload 5, 2) := by decide +kernel
theorem dX11_solve_148 : decode cX11_solve 148 = .ok (.iload_n 2, 1) := by decide +kernel
theorem dX11_solve_149 : decode cX11_solve 149 = .ok (.if_icmp .ge 224, 3) := by decide +kernel
theorem dX11_solve_152 : decode cX11_solve 152 = .ok (.aload_n 0, 1) := by decide +kernel
theorem dX11_solve_153 : decode cX11_solve 153 = .ok (.getfield 48, 3) := by decide +kernel
theorem dX11_solve_156 : decode cX11_solve 156 = .ok (.bipush 41, 2) := by decide +kernel
theorem dX11_solve_158 : decode cX11_solve 158 = .ok (.iload 5, 2) := by decide +kernel
theorem dX11_solve_160 : decode cX11_solve 160 = .ok (.imul, 1) := by decide +kernel
theorem dX11_solve_161 : decode cX11_solve 161 = .ok (.iload 4, 2) := by decide +kernel
theorem dX11_solve_163 : decode cX11_solve 163 = .ok (.iadd, 1) := by decide +kernel
theorem dX11_solve_164 : decode cX11_solve 164 = .ok (.laload, 1) := by decide +kernel
theorem dX11_solve_165 : decode cX11_solve 165 = .ok (.aload_n 0, 1) := by decide +kernel
theorem dX11_solve_166 : decode cX11_solve 166 = .ok (.getfield 23, 3) := by decide +kernel
theorem dX11_solve_169 : decode cX11_solve 169 = .ok (.i2l, 1) := by decide +kernel
theorem dX11_solve_170 : decode cX11_solve 170 = .ok (.invokestatic 199, 3) := by decide +kernel
theorem dX11_solve_173 : decode cX11_solve 173 = .ok (.lstore 6, 2) := by decide +kernel
theorem dX11_solve_175 : decode cX11_solve 175 = .ok (.iconst 0, 1) := by decide +kernel
theorem dX11_solve_176 : decode cX11_solve 176 = .ok (.istore 8, 2) := by decide +kernel
theorem dX11_solve_178 : decode cX11_solve 178 = .ok (.iload 8, 2) := by decide +kernel
