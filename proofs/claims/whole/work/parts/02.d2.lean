theorem dX4_becomeProduct_25 : decode cX4_becomeProduct 25 = .ok (.if_icmp .gt 47, 3) := by decide +kernel
theorem dX4_becomeProduct_28 : decode cX4_becomeProduct 28 = .ok (.aload_n 0, 1) := by decide +kernel
theorem dX4_becomeProduct_29 : decode cX4_becomeProduct 29 = .ok (.getfield 11, 3) := by decide +kernel
theorem dX4_becomeProduct_32 : decode cX4_becomeProduct 32 = .ok (.iload 4, 2) := by decide +kernel
theorem dX4_becomeProduct_34 : decode cX4_becomeProduct 34 = .ok (.iload 5, 2) := by decide +kernel
theorem dX4_becomeProduct_36 : decode cX4_becomeProduct 36 = .ok (.iadd, 1) := by decide +kernel
theorem dX4_becomeProduct_37 : decode cX4_becomeProduct 37 = .ok (.aload_n 0, 1) := by decide +kernel
theorem dX4_becomeProduct_38 : decode cX4_becomeProduct 38 = .ok (.getfield 11, 3) := by decide +kernel
theorem dX4_becomeProduct_41 : decode cX4_becomeProduct 41 = .ok (.iload 4, 2) := by decide +kernel
theorem dX4_becomeProduct_43 : decode cX4_becomeProduct 43 = .ok (.iload 5, 2) := by decide +kernel
theorem dX4_becomeProduct_45 : decode cX4_becomeProduct 45 = .ok (.iadd, 1) := by decide +kernel
theorem dX4_becomeProduct_46 : decode cX4_becomeProduct 46 = .ok (.iaload, 1) := by decide +kernel
theorem dX4_becomeProduct_47 : decode cX4_becomeProduct 47 = .ok (.aload_n 1, 1) := by decide +kernel
theorem dX4_becomeProduct_48 : decode cX4_becomeProduct 48 = .ok (.getfield 11, 3) := by decide +kernel
theorem dX4_becomeProduct_51 : decode cX4_becomeProduct 51 = .ok (.iload 4, 2) := by decide +kernel
theorem dX4_becomeProduct_53 : decode cX4_becomeProduct 53 = .ok (.iaload, 1) := by decide +kernel
theorem dX4_becomeProduct_54 : decode cX4_becomeProduct 54 = .ok (.aload_n 2, 1) := by decide +kernel
theorem dX4_becomeProduct_55 : decode cX4_becomeProduct 55 = .ok (.getfield 11, 3) := by decide +kernel
theorem dX4_becomeProduct_58 : decode cX4_becomeProduct 58 = .ok (.iload 5, 2) := by decide +kernel
theorem dX4_becomeProduct_60 : decode cX4_becomeProduct 60 = .ok (.iaload, 1) := by decide +kernel
theorem dX4_becomeProduct_61 : decode cX4_becomeProduct 61 = .ok (.imul, 1) := by decide +kernel
theorem dX4_becomeProduct_62 : decode cX4_becomeProduct 62 = .ok (.iadd, 1) := by decide +kernel
theorem dX4_becomeProduct_63 : decode cX4_becomeProduct 63 = .ok (.iload_n 3, 1) := by decide +kernel
theorem dX4_becomeProduct_64 : decode cX4_becomeProduct 64 = .ok (.irem, 1) := by decide +kernel
theorem dX4_becomeProduct_65 : decode cX4_becomeProduct 65 = .ok (.iastore, 1) := by decide +kernel
theorem dX4_becomeProduct_66 : decode cX4_becomeProduct 66 = .ok (.iinc 5 1, 3) := by decide +kernel
theorem dX4_becomeProduct_69 : decode cX4_becomeProduct 69 = .ok (.goto (-50), 3) := by decide +kernel
theorem dX4_becomeProduct_72 : decode cX4_becomeProduct 72 = .ok (.iinc 4 1, 3) := by decide +kernel
theorem dX4_becomeProduct_75 : decode cX4_becomeProduct 75 = .ok (.goto (-68), 3) := by decide +kernel
theorem dX4_becomeProduct_78 : decode cX4_becomeProduct 78 = .ok (.aload_n 0, 1) := by decide +kernel
theorem dX4_becomeProduct_79 : decode cX4_becomeProduct 79 = .ok (.bipush 12, 2) := by decide +kernel
theorem dX4_becomeProduct_81 : decode cX4_becomeProduct 81 = .ok (.invokevirtual 47, 3) := by decide +kernel
theorem dX4_becomeProduct_84 : decode cX4_becomeProduct 84 = .ok (.return_, 1) := by decide +kernel
theorem dX4_divideBy_0 : decode cX4_divideBy 0 = .ok (.aload_n 3, 1) := by decide +kernel
theorem dX4_divideBy_1 : decode cX4_divideBy 1 = .ok (.invokevirtual 25, 3) := by decide +kernel
theorem dX4_divideBy_4 : decode cX4_divideBy 4 = .ok (.aload_n 1, 1) := by decide +kernel
theorem dX4_divideBy_5 : decode cX4_divideBy 5 = .ok (.getfield 15, 3) := by decide +kernel
theorem dX4_divideBy_8 : decode cX4_divideBy 8 = .ok (.ifCond .ge 4, 3) := by decide +kernel
theorem dX4_divideBy_11 : decode cX4_divideBy 11 = .ok (.return_, 1) := by decide +kernel
theorem dX4_divideBy_12 : decode cX4_divideBy 12 = .ok (.aload_n 1, 1) := by decide +kernel
theorem dX4_divideBy_13 : decode cX4_divideBy 13 = .ok (.getfield 11, 3) := by decide +kernel
theorem dX4_divideBy_16 : decode cX4_divideBy 16 = .ok (.aload_n 1, 1) := by decide +kernel
theorem dX4_divideBy_17 : decode cX4_divideBy 17 = .ok (.getfield 15, 3) := by decide +kernel
theorem dX4_divideBy_20 : decode cX4_divideBy 20 = .ok (.iaload, 1) := by decide +kernel
theorem dX4_divideBy_21 : decode cX4_divideBy 21 = .ok (.i2l, 1) := by decide +kernel
theorem dX4_divideBy_22 : decode cX4_divideBy 22 = .ok (.iload_n 2, 1) := by decide +kernel
theorem dX4_divideBy_23 : decode cX4_divideBy 23 = .ok (.invokestatic 51, 3) := by decide +kernel
theorem dX4_divideBy_26 : decode cX4_divideBy 26 = .ok (.istore 4, 2) := by decide +kernel
theorem dX4_divideBy_28 : decode cX4_divideBy 28 = .ok (.aload_n 0, 1) := by decide +kernel
theorem dX4_divideBy_29 : decode cX4_divideBy 29 = .ok (.getfield 15, 3) := by decide +kernel
theorem dX4_divideBy_32 : decode cX4_divideBy 32 = .ok (.aload_n 1, 1) := by decide +kernel
theorem dX4_divideBy_33 : decode cX4_divideBy 33 = .ok (.getfield 15, 3) := by decide +kernel
theorem dX4_divideBy_36 : decode cX4_divideBy 36 = .ok (.isub, 1) := by decide +kernel
theorem dX4_divideBy_37 : decode cX4_divideBy 37 = .ok (.istore 5, 2) := by decide +kernel
theorem dX4_divideBy_39 : decode cX4_divideBy 39 = .ok (.iload 5, 2) := by decide +kernel
theorem dX4_divideBy_41 : decode cX4_divideBy 41 = .ok (.ifCond .lt 96, 3) := by decide +kernel
theorem dX4_divideBy_44 : decode cX4_divideBy 44 = .ok (.aload_n 0, 1) := by decide +kernel
theorem dX4_divideBy_45 : decode cX4_divideBy 45 = .ok (.getfield 11, 3) := by decide +kernel
theorem dX4_divideBy_48 : decode cX4_divideBy 48 = .ok (.iload 5, 2) := by decide +kernel
theorem dX4_divideBy_50 : decode cX4_divideBy 50 = .ok (.aload_n 1, 1) := by decide +kernel
theorem dX4_divideBy_51 : decode cX4_divideBy 51 = .ok (.getfield 15, 3) := by decide +kernel
theorem dX4_divideBy_54 : decode cX4_divideBy 54 = .ok (.iadd, 1) := by decide +kernel
theorem dX4_divideBy_55 : decode cX4_divideBy 55 = .ok (.iaload, 1) := by decide +kernel
theorem dX4_divideBy_56 : decode cX4_divideBy 56 = .ok (.iload 4, 2) := by decide +kernel
theorem dX4_divideBy_58 : decode cX4_divideBy 58 = .ok (.imul, 1) := by decide +kernel
theorem dX4_divideBy_59 : decode cX4_divideBy 59 = .ok (.iload_n 2, 1) := by decide +kernel
theorem dX4_divideBy_60 : decode cX4_divideBy 60 = .ok (.irem, 1) := by decide +kernel
theorem dX4_divideBy_61 : decode cX4_divideBy 61 = .ok (.istore 6, 2) := by decide +kernel
theorem dX4_divideBy_63 : decode cX4_divideBy 63 = .ok (.aload_n 3, 1) := by decide +kernel
theorem dX4_divideBy_64 : decode cX4_divideBy 64 = .ok (.getfield 11, 3) := by decide +kernel
theorem dX4_divideBy_67 : decode cX4_divideBy 67 = .ok (.iload 5, 2) := by decide +kernel
theorem dX4_divideBy_69 : decode cX4_divideBy 69 = .ok (.iload 6, 2) := by decide +kernel
theorem dX4_divideBy_71 : decode cX4_divideBy 71 = .ok (.iastore, 1) := by decide +kernel
theorem dX4_divideBy_72 : decode cX4_divideBy 72 = .ok (.iconst 0, 1) := by decide +kernel
theorem dX4_divideBy_73 : decode cX4_divideBy 73 = .ok (.istore 7, 2) := by decide +kernel
theorem dX4_divideBy_75 : decode cX4_divideBy 75 = .ok (.iload 7, 2) := by decide +kernel
theorem dX4_divideBy_77 : decode cX4_divideBy 77 = .ok (.aload_n 1, 1) := by decide +kernel
theorem dX4_divideBy_78 : decode cX4_divideBy 78 = .ok (.getfield 15, 3) := by decide +kernel
theorem dX4_divideBy_81 : decode cX4_divideBy 81 = .ok (.if_icmp .gt 50, 3) := by decide +kernel
theorem dX4_divideBy_84 : decode cX4_divideBy 84 = .ok (.iload 6, 2) := by decide +kernel
theorem dX4_divideBy_86 : decode cX4_divideBy 86 = .ok (.aload_n 1, 1) := by decide +kernel
theorem dX4_divideBy_87 : decode cX4_divideBy 87 = .ok (.getfield 11, 3) := by decide +kernel
theorem dX4_divideBy_90 : decode cX4_divideBy 90 = .ok (.iload 7, 2) := by decide +kernel
theorem dX4_divideBy_92 : decode cX4_divideBy 92 = .ok (.iaload, 1) := by decide +kernel
theorem dX4_divideBy_93 : decode cX4_divideBy 93 = .ok (.imul, 1) := by decide +kernel
theorem dX4_divideBy_94 : decode cX4_divideBy 94 = .ok (.iload_n 2, 1) := by decide +kernel
theorem dX4_divideBy_95 : decode cX4_divideBy 95 = .ok (.irem, 1) := by decide +kernel
theorem dX4_divideBy_96 : decode cX4_divideBy 96 = .ok (.istore 8, 2) := by decide +kernel
theorem dX4_divideBy_98 : decode cX4_divideBy 98 = .ok (.aload_n 0, 1) := by decide +kernel
theorem dX4_divideBy_99 : decode cX4_divideBy 99 = .ok (.getfield 11, 3) := by decide +kernel
theorem dX4_divideBy_102 : decode cX4_divideBy 102 = .ok (.iload 5, 2) := by decide +kernel
theorem dX4_divideBy_104 : decode cX4_divideBy 104 = .ok (.iload 7, 2) := by decide +kernel
theorem dX4_divideBy_106 : decode cX4_divideBy 106 = .ok (.iadd, 1) := by decide +kernel
theorem dX4_divideBy_107 : decode cX4_divideBy 107 = .ok (.aload_n 0, 1) := by decide +kernel
theorem dX4_divideBy_108 : decode cX4_divideBy 108 = .ok (.getfield 11, 3) := by decide +kernel
theorem dX4_divideBy_111 : decode cX4_divideBy 111 = .ok (.iload 5, 2) := by decide +kernel
theorem dX4_divideBy_113 : decode cX4_divideBy 113 = .ok (.iload 7, 2) := by decide +kernel
theorem dX4_divideBy_115 : decode cX4_divideBy 115 = .ok (.iadd, 1) := by decide +kernel
theorem dX4_divideBy_116 : decode cX4_divideBy 116 = .ok (.iaload, 1) := by decide +kernel
theorem dX4_divideBy_117 : decode cX4_divideBy 117 = .ok (.iload_n 2, 1) := by decide +kernel
theorem dX4_divideBy_118 : decode cX4_divideBy 118 = .ok (.iadd, 1) := by decide +kernel
theorem dX4_divideBy_119 : decode cX4_divideBy 119 = .ok (.iload 8, 2) := by decide +kernel
theorem dX4_divideBy_121 : decode cX4_divideBy 121 = .ok (.isub, 1) := by decide +kernel
theorem dX4_divideBy_122 : decode cX4_divideBy 122 = .ok (.iload_n 2, 1) := by decide +kernel
theorem dX4_divideBy_123 : decode cX4_divideBy 123 = .ok (.irem, 1) := by decide +kernel
theorem dX4_divideBy_124 : decode cX4_divideBy 124 = .ok (.iastore, 1) := by decide +kernel
theorem dX4_divideBy_125 : decode cX4_divideBy 125 = .ok (.iinc 7 1, 3) := by decide +kernel
theorem dX4_divideBy_128 : decode cX4_divideBy 128 = .ok (.goto (-53), 3) := by decide +kernel
theorem dX4_divideBy_131 : decode cX4_divideBy 131 = .ok (.iinc 5 (-1), 3) := by decide +kernel
theorem dX4_divideBy_134 : decode cX4_divideBy 134 = .ok (.goto (-95), 3) := by decide +kernel
theorem dX4_divideBy_137 : decode cX4_divideBy 137 = .ok (.aload_n 3, 1) := by decide +kernel
theorem dX4_divideBy_138 : decode cX4_divideBy 138 = .ok (.bipush 12, 2) := by decide +kernel
theorem dX4_divideBy_140 : decode cX4_divideBy 140 = .ok (.invokevirtual 47, 3) := by decide +kernel
theorem dX4_divideBy_143 : decode cX4_divideBy 143 = .ok (.aload_n 0, 1) := by decide +kernel
theorem dX4_divideBy_144 : decode cX4_divideBy 144 = .ok (.aload_n 0, 1) := by decide +kernel
theorem dX4_divideBy_145 : decode cX4_divideBy 145 = .ok (.getfield 15, 3) := by decide +kernel
theorem dX4_divideBy_148 : decode cX4_divideBy 148 = .ok (.invokevirtual 47, 3) := by decide +kernel
theorem dX4_divideBy_151 : decode cX4_divideBy 151 = .ok (.return_, 1) := by decide +kernel
theorem dX4_clear_0 : decode cX4_clear 0 = .ok (.iconst 0, 1) := by decide +kernel
theorem dX4_clear_1 : decode cX4_clear 1 = .ok (.istore_n 1, 1) := by decide +kernel
theorem dX4_clear_2 : decode cX4_clear 2 = .ok (.iload_n 1, 1) := by decide +kernel
theorem dX4_clear_3 : decode cX4_clear 3 = .ok (.bipush 12, 2) := by decide +kernel
theorem dX4_clear_5 : decode cX4_clear 5 = .ok (.if_icmp .gt 16, 3) := by decide +kernel
theorem dX4_clear_8 : decode cX4_clear 8 = .ok (.aload_n 0, 1) := by decide +kernel
theorem dX4_clear_9 : decode cX4_clear 9 = .ok (.getfield 11, 3) := by decide +kernel
theorem dX4_clear_12 : decode cX4_clear 12 = .ok (.iload_n 1, 1) := by decide +kernel
theorem dX4_clear_13 : decode cX4_clear 13 = .ok (.iconst 0, 1) := by decide +kernel
theorem dX4_clear_14 : decode cX4_clear 14 = .ok (.iastore, 1) := by decide +kernel
theorem dX4_clear_15 : decode cX4_clear 15 = .ok (.iinc 1 1, 3) := by decide +kernel
theorem dX4_clear_18 : decode cX4_clear 18 = .ok (.goto (-16), 3) := by decide +kernel
theorem dX4_clear_21 : decode cX4_clear 21 = .ok (.aload_n 0, 1) := by decide +kernel
theorem dX4_clear_22 : decode cX4_clear 22 = .ok (.iconst (-1), 1) := by decide +kernel
theorem dX4_clear_23 : decode cX4_clear 23 = .ok (.putfield 15, 3) := by decide +kernel
theorem dX4_clear_26 : decode cX4_clear 26 = .ok (.return_, 1) := by decide +kernel
theorem dX4_findDegree_0 : decode cX4_findDegree 0 = .ok (.aload_n 0, 1) := by decide +kernel
theorem dX4_findDegree_1 : decode cX4_findDegree 1 = .ok (.iload_n 1, 1) := by decide +kernel
theorem dX4_findDegree_2 : decode cX4_findDegree 2 = .ok (.putfield 15, 3) := by decide +kernel
theorem dX4_findDegree_5 : decode cX4_findDegree 5 = .ok (.aload_n 0, 1) := by decide +kernel
theorem dX4_findDegree_6 : decode cX4_findDegree 6 = .ok (.getfield 15, 3) := by decide +kernel
theorem dX4_findDegree_9 : decode cX4_findDegree 9 = .ok (.ifCond .lt 28, 3) := by decide +kernel
theorem dX4_findDegree_12 : decode cX4_findDegree 12 = .ok (.aload_n 0, 1) := by decide +kernel
theorem dX4_findDegree_13 : decode cX4_findDegree 13 = .ok (.getfield 11, 3) := by decide +kernel
theorem dX4_findDegree_16 : decode cX4_findDegree 16 = .ok (.aload_n 0, 1) := by decide +kernel
theorem dX4_findDegree_17 : decode cX4_findDegree 17 = .ok (.getfield 15, 3) := by decide +kernel
theorem dX4_findDegree_20 : decode cX4_findDegree 20 = .ok (.iaload, 1) := by decide +kernel
theorem dX4_findDegree_21 : decode cX4_findDegree 21 = .ok (.ifCond .ne 16, 3) := by decide +kernel
theorem dX4_findDegree_24 : decode cX4_findDegree 24 = .ok (.aload_n 0, 1) := by decide +kernel
theorem dX4_findDegree_25 : decode cX4_findDegree 25 = .ok (.dup, 1) := by decide +kernel
theorem dX4_findDegree_26 : decode cX4_findDegree 26 = .ok (.getfield 15, 3) := by decide +kernel
theorem dX4_findDegree_29 : decode cX4_findDegree 29 = .ok (.iconst 1, 1) := by decide +kernel
theorem dX4_findDegree_30 : decode cX4_findDegree 30 = .ok (.isub, 1) := by decide +kernel
theorem dX4_findDegree_31 : decode cX4_findDegree 31 = .ok (.putfield 15, 3) := by decide +kernel
theorem dX4_findDegree_34 : decode cX4_findDegree 34 = .ok (.goto (-29), 3) := by decide +kernel
theorem dX4_findDegree_37 : decode cX4_findDegree 37 = .ok (.return_, 1) := by decide +kernel
theorem dX5_init_0 : decode cX5_init 0 = .ok (.aload_n 0, 1) := by decide +kernel
theorem dX5_init_1 : decode cX5_init 1 = .ok (.invokespecial 3, 3) := by decide +kernel
theorem dX5_init_4 : decode cX5_init 4 = .ok (.aload_n 0, 1) := by decide +kernel
theorem dX5_init_5 : decode cX5_init 5 = .ok (.bipush 7, 2) := by decide +kernel
theorem dX5_init_7 : decode cX5_init 7 = .ok (.newarray .long, 2) := by decide +kernel
theorem dX5_init_9 : decode cX5_init 9 = .ok (.putfield 9, 3) := by decide +kernel
theorem dX5_init_12 : decode cX5_init 12 = .ok (.aload_n 0, 1) := by decide +kernel
theorem dX5_init_13 : decode cX5_init 13 = .ok (.bipush 6, 2) := by decide +kernel
theorem dX5_init_15 : decode cX5_init 15 = .ok (.newarray .long, 2) := by decide +kernel
theorem dX5_init_17 : decode cX5_init 17 = .ok (.putfield 15, 3) := by decide +kernel
theorem dX5_init_20 : decode cX5_init 20 = .ok (.aload_n 0, 1) := by decide +kernel
theorem dX5_init_21 : decode cX5_init 21 = .ok (.bipush 6, 2) := by decide +kernel
theorem dX5_init_23 : decode cX5_init 23 = .ok (.newarray .long, 2) := by decide +kernel
theorem dX5_init_25 : decode cX5_init 25 = .ok (.putfield 18, 3) := by decide +kernel
theorem dX5_init_28 : decode cX5_init 28 = .ok (.aload_n 0, 1) := by decide +kernel
theorem dX5_init_29 : decode cX5_init 29 = .ok (.bipush 12, 2) := by decide +kernel
theorem dX5_init_31 : decode cX5_init 31 = .ok (.newarray .long, 2) := by decide +kernel
theorem dX5_init_33 : decode cX5_init 33 = .ok (.putfield 21, 3) := by decide +kernel
theorem dX5_init_36 : decode cX5_init 36 = .ok (.aload_n 0, 1) := by decide +kernel
theorem dX5_init_37 : decode cX5_init 37 = .ok (.iconst 1, 1) := by decide +kernel
theorem dX5_init_38 : decode cX5_init 38 = .ok (.putfield 24, 3) := by decide +kernel
theorem dX5_init_41 : decode cX5_init 41 = .ok (.aload_n 0, 1) := by decide +kernel
theorem dX5_init_42 : decode cX5_init 42 = .ok (.iconst 2, 1) := by decide +kernel
theorem dX5_init_43 : decode cX5_init 43 = .ok (.putfield 28, 3) := by decide +kernel
theorem dX5_init_46 : decode cX5_init 46 = .ok (.return_, 1) := by decide +kernel
theorem dX5_placeOn_0 : decode cX5_placeOn 0 = .ok (.aload_n 0, 1) := by decide +kernel
theorem dX5_placeOn_1 : decode cX5_placeOn 1 = .ok (.aload_n 1, 1) := by decide +kernel
theorem dX5_placeOn_2 : decode cX5_placeOn 2 = .ok (.getfield 31, 3) := by decide +kernel
theorem dX5_placeOn_5 : decode cX5_placeOn 5 = .ok (.putfield 24, 3) := by decide +kernel
theorem dX5_placeOn_8 : decode cX5_placeOn 8 = .ok (.aload_n 0, 1) := by decide +kernel
theorem dX5_placeOn_9 : decode cX5_placeOn 9 = .ok (.iload_n 3, 1) := by decide +kernel
theorem dX5_placeOn_10 : decode cX5_placeOn 10 = .ok (.putfield 28, 3) := by decide +kernel
theorem dX5_placeOn_13 : decode cX5_placeOn 13 = .ok (.iconst 0, 1) := by decide +kernel
theorem dX5_placeOn_14 : decode cX5_placeOn 14 = .ok (.istore 4, 2) := by decide +kernel
theorem dX5_placeOn_16 : decode cX5_placeOn 16 = .ok (.iload 4, 2) := by decide +kernel
theorem dX5_placeOn_18 : decode cX5_placeOn 18 = .ok (.aload_n 0, 1) := by decide +kernel
theorem dX5_placeOn_19 : decode cX5_placeOn 19 = .ok (.getfield 24, 3) := by decide +kernel
theorem dX5_placeOn_22 : decode cX5_placeOn 22 = .ok (.if_icmp .ge 57, 3) := by decide +kernel
theorem dX5_placeOn_25 : decode cX5_placeOn 25 = .ok (.aload_n 0, 1) := by decide +kernel
theorem dX5_placeOn_26 : decode cX5_placeOn 26 = .ok (.getfield 9, 3) := by decide +kernel
theorem dX5_placeOn_29 : decode cX5_placeOn 29 = .ok (.iload 4, 2) := by decide +kernel
theorem dX5_placeOn_31 : decode cX5_placeOn 31 = .ok (.iconst 1, 1) := by decide +kernel
theorem dX5_placeOn_32 : decode cX5_placeOn 32 = .ok (.iadd, 1) := by decide +kernel
theorem dX5_placeOn_33 : decode cX5_placeOn 33 = .ok (.aload_n 1, 1) := by decide +kernel
theorem dX5_placeOn_34 : decode cX5_placeOn 34 = .ok (.getfield 34, 3) := by decide +kernel
theorem dX5_placeOn_37 : decode cX5_placeOn 37 = .ok (.iload 4, 2) := by decide +kernel
theorem dX5_placeOn_39 : decode cX5_placeOn 39 = .ok (.iconst 1, 1) := by decide +kernel
theorem dX5_placeOn_40 : decode cX5_placeOn 40 = .ok (.iadd, 1) := by decide +kernel
theorem dX5_placeOn_41 : decode cX5_placeOn 41 = .ok (.laload, 1) := by decide +kernel
theorem dX5_placeOn_42 : decode cX5_placeOn 42 = .ok (.aload_n 0, 1) := by decide +kernel
theorem dX5_placeOn_43 : decode cX5_placeOn 43 = .ok (.getfield 28, 3) := by decide +kernel
theorem dX5_placeOn_46 : decode cX5_placeOn 46 = .ok (.i2l, 1) := by decide +kernel
theorem dX5_placeOn_47 : decode cX5_placeOn 47 = .ok (.invokestatic 35, 3) := by decide +kernel
theorem dX5_placeOn_50 : decode cX5_placeOn 50 = .ok (.lastore, 1) := by decide +kernel
theorem dX5_placeOn_51 : decode cX5_placeOn 51 = .ok (.aload_n 0, 1) := by decide +kernel
theorem dX5_placeOn_52 : decode cX5_placeOn 52 = .ok (.getfield 15, 3) := by decide +kernel
theorem dX5_placeOn_55 : decode cX5_placeOn 55 = .ok (.iload 4, 2) := by decide +kernel
theorem dX5_placeOn_57 : decode cX5_placeOn 57 = .ok (.aload_n 1, 1) := by decide +kernel
theorem dX5_placeOn_58 : decode cX5_placeOn 58 = .ok (.getfield 41, 3) := by decide +kernel
theorem dX5_placeOn_61 : decode cX5_placeOn 61 = .ok (.iload 4, 2) := by decide +kernel
theorem dX5_placeOn_63 : decode cX5_placeOn 63 = .ok (.laload, 1) := by decide +kernel
theorem dX5_placeOn_64 : decode cX5_placeOn 64 = .ok (.aload_n 0, 1) := by decide +kernel
theorem dX5_placeOn_65 : decode cX5_placeOn 65 = .ok (.getfield 28, 3) := by decide +kernel
theorem dX5_placeOn_68 : decode cX5_placeOn 68 = .ok (.i2l, 1) := by decide +kernel
theorem dX5_placeOn_69 : decode cX5_placeOn 69 = .ok (.invokestatic 35, 3) := by decide +kernel
theorem dX5_placeOn_72 : decode cX5_placeOn 72 = .ok (.lastore, 1) := by decide +kernel
theorem dX5_placeOn_73 : decode cX5_placeOn 73 = .ok (.iinc 4 1, 3) := by decide +kernel
theorem dX5_placeOn_76 : decode cX5_placeOn 76 = .ok (.goto (-60), 3) := by decide +kernel
theorem dX5_placeOn_79 : decode cX5_placeOn 79 = .ok (.aload_n 0, 1) := by decide +kernel
theorem dX5_placeOn_80 : decode cX5_placeOn 80 = .ok (.iload_n 2, 1) := by decide +kernel
theorem dX5_placeOn_81 : decode cX5_placeOn 81 = .ok (.invokevirtual 42, 3) := by decide +kernel
theorem dX5_placeOn_84 : decode cX5_placeOn 84 = .ok (.ireturn, 1) := by decide +kernel
theorem dX5_placeBack_0 : decode cX5_placeBack 0 = .ok (.aload_n 0, 1) := by decide +kernel
theorem dX5_placeBack_1 : decode cX5_placeBack 1 = .ok (.aload_n 1, 1) := by decide +kernel
theorem dX5_placeBack_2 : decode cX5_placeBack 2 = .ok (.getfield 31, 3) := by decide +kernel
theorem dX5_placeBack_5 : decode cX5_placeBack 5 = .ok (.putfield 24, 3) := by decide +kernel
theorem dX5_placeBack_8 : decode cX5_placeBack 8 = .ok (.aload_n 0, 1) := by decide +kernel
theorem dX5_placeBack_9 : decode cX5_placeBack 9 = .ok (.iload_n 3, 1) := by decide +kernel
theorem dX5_placeBack_10 : decode cX5_placeBack 10 = .ok (.putfield 28, 3) := by decide +kernel
theorem dX5_placeBack_13 : decode cX5_placeBack 13 = .ok (.aload_n 1, 1) := by decide +kernel
theorem dX5_placeBack_14 : decode cX5_placeBack 14 = .ok (.getfield 34, 3) := by decide +kernel
theorem dX5_placeBack_17 : decode cX5_placeBack 17 = .ok (.aload_n 0, 1) := by decide +kernel
theorem dX5_placeBack_18 : decode cX5_placeBack 18 = .ok (.getfield 24, 3) := by decide +kernel
theorem dX5_placeBack_21 : decode cX5_placeBack 21 = .ok (.laload, 1) := by decide +kernel
theorem dX5_placeBack_22 : decode cX5_placeBack 22 = .ok (.aload_n 0, 1) := by decide +kernel
theorem dX5_placeBack_23 : decode cX5_placeBack 23 = .ok (.getfield 28, 3) := by decide +kernel
theorem dX5_placeBack_26 : decode cX5_placeBack 26 = .ok (.invokestatic 46, 3) := by decide +kernel
theorem dX5_placeBack_29 : decode cX5_placeBack 29 = .ok (.i2l, 1) := by decide +kernel
theorem dX5_placeBack_30 : decode cX5_placeBack 30 = .ok (.lstore 4, 2) := by decide +kernel
theorem dX5_placeBack_32 : decode cX5_placeBack 32 = .ok (.iconst 0, 1) := by decide +kernel
theorem dX5_placeBack_33 : decode cX5_placeBack 33 = .ok (.istore 6, 2) := by decide +kernel
theorem dX5_placeBack_35 : decode cX5_placeBack 35 = .ok (.iload 6, 2) := by decide +kernel
theorem dX5_placeBack_37 : decode cX5_placeBack 37 = .ok (.aload_n 0, 1) := by decide +kernel
theorem dX5_placeBack_38 : decode cX5_placeBack 38 = .ok (.getfield 24, 3) := by decide +kernel
theorem dX5_placeBack_41 : decode cX5_placeBack 41 = .ok (.if_icmp .ge 83, 3) := by decide +kernel
theorem dX5_placeBack_44 : decode cX5_placeBack 44 = .ok (.aload_n 1, 1) := by decide +kernel
theorem dX5_placeBack_45 : decode cX5_placeBack 45 = .ok (.getfield 34, 3) := by decide +kernel
theorem dX5_placeBack_48 : decode cX5_placeBack 48 = .ok (.aload_n 0, 1) := by decide +kernel
theorem dX5_placeBack_49 : decode cX5_placeBack 49 = .ok (.getfield 24, 3) := by decide +kernel
theorem dX5_placeBack_52 : decode cX5_placeBack 52 = .ok (.iconst 1, 1) := by decide +kernel
theorem dX5_placeBack_53 : decode cX5_placeBack 53 = .ok (.isub, 1) := by decide +kernel
theorem dX5_placeBack_54 : decode cX5_placeBack 54 = .ok (.iload 6, 2) := by decide +kernel
theorem dX5_placeBack_56 : decode cX5_placeBack 56 = .ok (.isub, 1) := by decide +kernel
theorem dX5_placeBack_57 : decode cX5_placeBack 57 = .ok (.laload, 1) := by decide +kernel
theorem dX5_placeBack_58 : decode cX5_placeBack 58 = .ok (.lneg, 1) := by decide +kernel
theorem dX5_placeBack_59 : decode cX5_placeBack 59 = .ok (.aload_n 0, 1) := by decide +kernel
theorem dX5_placeBack_60 : decode cX5_placeBack 60 = .ok (.getfield 28, 3) := by decide +kernel
theorem dX5_placeBack_63 : decode cX5_placeBack 63 = .ok (.i2l, 1) := by decide +kernel
theorem dX5_placeBack_64 : decode cX5_placeBack 64 = .ok (.invokestatic 35, 3) := by decide +kernel
theorem dX5_placeBack_67 : decode cX5_placeBack 67 = .ok (.lstore 7, 2) := by decide +kernel
theorem dX5_placeBack_69 : decode cX5_placeBack 69 = .ok (.aload_n 0, 1) := by decide +kernel
theorem dX5_placeBack_70 : decode cX5_placeBack 70 = .ok (.getfield 9, 3) := by decide +kernel
theorem dX5_placeBack_73 : decode cX5_placeBack 73 = .ok (.iload 6, 2) := by decide +kernel
theorem dX5_placeBack_75 : decode cX5_placeBack 75 = .ok (.iconst 1, 1) := by decide +kernel
theorem dX5_placeBack_76 : decode cX5_placeBack 76 = .ok (.iadd, 1) := by decide +kernel
theorem dX5_placeBack_77 : decode cX5_placeBack 77 = .ok (.lload 4, 2) := by decide +kernel
theorem dX5_placeBack_79 : decode cX5_placeBack 79 = .ok (.lload 7, 2) := by decide +kernel
theorem dX5_placeBack_81 : decode cX5_placeBack 81 = .ok (.lmul, 1) := by decide +kernel
theorem dX5_placeBack_82 : decode cX5_placeBack 82 = .ok (.aload_n 0, 1) := by decide +kernel
theorem dX5_placeBack_83 : decode cX5_placeBack 83 = .ok (.getfield 28, 3) := by decide +kernel
theorem dX5_placeBack_86 : decode cX5_placeBack 86 = .ok (.i2l, 1) := by decide +kernel
theorem dX5_placeBack_87 : decode cX5_placeBack 87 = .ok (.lrem, 1) := by decide +kernel
theorem dX5_placeBack_88 : decode cX5_placeBack 88 = .ok (.lastore, 1) := by decide +kernel
theorem dX5_placeBack_89 : decode cX5_placeBack 89 = .ok (.aload_n 0, 1) := by decide +kernel
theorem dX5_placeBack_90 : decode cX5_placeBack 90 = .ok (.getfield 15, 3) := by decide +kernel
theorem dX5_placeBack_93 : decode cX5_placeBack 93 = .ok (.iload 6, 2) := by decide +kernel
theorem dX5_placeBack_95 : decode cX5_placeBack 95 = .ok (.aload_n 1, 1) := by decide +kernel
theorem dX5_placeBack_96 : decode cX5_placeBack 96 = .ok (.getfield 41, 3) := by decide +kernel
theorem dX5_placeBack_99 : decode cX5_placeBack 99 = .ok (.aload_n 0, 1) := by decide +kernel
theorem dX5_placeBack_100 : decode cX5_placeBack 100 = .ok (.getfield 24, 3) := by decide +kernel
theorem dX5_placeBack_103 : decode cX5_placeBack 103 = .ok (.iconst 1, 1) := by decide +kernel
theorem dX5_placeBack_104 : decode cX5_placeBack 104 = .ok (.isub, 1) := by decide +kernel
theorem dX5_placeBack_105 : decode cX5_placeBack 105 = .ok (.iload 6, 2) := by decide +kernel
theorem dX5_placeBack_107 : decode cX5_placeBack 107 = .ok (.isub, 1) := by decide +kernel
theorem dX5_placeBack_108 : decode cX5_placeBack 108 = .ok (.laload, 1) := by decide +kernel
theorem dX5_placeBack_109 : decode cX5_placeBack 109 = .ok (.aload_n 0, 1) := by decide +kernel
theorem dX5_placeBack_110 : decode cX5_placeBack 110 = .ok (.getfield 28, 3) := by decide +kernel
theorem dX5_placeBack_113 : decode cX5_placeBack 113 = .ok (.i2l, 1) := by decide +kernel
theorem dX5_placeBack_114 : decode cX5_placeBack 114 = .ok (.invokestatic 35, 3) := by decide +kernel
theorem dX5_placeBack_117 : decode cX5_placeBack 117 = .ok (.lastore, 1) := by decide +kernel
theorem dX5_placeBack_118 : decode cX5_placeBack 118 = .ok (.iinc 6 1, 3) := by decide +kernel
theorem dX5_placeBack_121 : decode cX5_placeBack 121 = .ok (.goto (-86), 3) := by decide +kernel
theorem dX5_placeBack_124 : decode cX5_placeBack 124 = .ok (.aload_n 0, 1) := by decide +kernel
theorem dX5_placeBack_125 : decode cX5_placeBack 125 = .ok (.aload_n 0, 1) := by decide +kernel
theorem dX5_placeBack_126 : decode cX5_placeBack 126 = .ok (.getfield 24, 3) := by decide +kernel
theorem dX5_placeBack_129 : decode cX5_placeBack 129 = .ok (.iconst 1, 1) := by decide +kernel
theorem dX5_placeBack_130 : decode cX5_placeBack 130 = .ok (.isub, 1) := by decide +kernel
theorem dX5_placeBack_131 : decode cX5_placeBack 131 = .ok (.iload_n 2, 1) := by decide +kernel
theorem dX5_placeBack_132 : decode cX5_placeBack 132 = .ok (.iadd, 1) := by decide +kernel
theorem dX5_placeBack_133 : decode cX5_placeBack 133 = .ok (.invokevirtual 42, 3) := by decide +kernel
theorem dX5_placeBack_136 : decode cX5_placeBack 136 = .ok (.ireturn, 1) := by decide +kernel
theorem dX5_place_0 : decode cX5_place 0 = .ok (.iconst 0, 1) := by decide +kernel
theorem dX5_place_1 : decode cX5_place 1 = .ok (.istore_n 2, 1) := by decide +kernel
theorem dX5_place_2 : decode cX5_place 2 = .ok (.iload_n 2, 1) := by decide +kernel
theorem dX5_place_3 : decode cX5_place 3 = .ok (.aload_n 0, 1) := by decide +kernel
theorem dX5_place_4 : decode cX5_place 4 = .ok (.getfield 24, 3) := by decide +kernel
theorem dX5_place_7 : decode cX5_place 7 = .ok (.if_icmp .ge 24, 3) := by decide +kernel
theorem dX5_place_10 : decode cX5_place 10 = .ok (.aload_n 0, 1) := by decide +kernel
theorem dX5_place_11 : decode cX5_place 11 = .ok (.getfield 18, 3) := by decide +kernel
theorem dX5_place_14 : decode cX5_place 14 = .ok (.iload_n 2, 1) := by decide +kernel
theorem dX5_place_15 : decode cX5_place 15 = .ok (.iload_n 2, 1) := by decide +kernel
theorem dX5_place_16 : decode cX5_place 16 = .ok (.ifCond .ne 7, 3) := by decide +kernel
theorem dX5_place_19 : decode cX5_place 19 = .ok (.lconst 1, 1) := by decide +kernel
theorem dX5_place_20 : decode cX5_place 20 = .ok (.goto 4, 3) := by decide +kernel
theorem dX5_place_23 : decode cX5_place 23 = .ok (.lconst 0, 1) := by decide +kernel
theorem dX5_place_24 : decode cX5_place 24 = .ok (.lastore, 1) := by decide +kernel
theorem dX5_place_25 : decode cX5_place 25 = .ok (.iinc 2 1, 3) := by decide +kernel
theorem dX5_place_28 : decode cX5_place 28 = .ok (.goto (-26), 3) := by decide +kernel
theorem dX5_place_31 : decode cX5_place 31 = .ok (.bipush 30, 2) := by decide +kernel
theorem dX5_place_33 : decode cX5_place 33 = .ok (.istore_n 2, 1) := by decide +kernel
theorem dX5_place_34 : decode cX5_place 34 = .ok (.iload_n 2, 1) := by decide +kernel
theorem dX5_place_35 : decode cX5_place 35 = .ok (.ifCond .lt 26, 3) := by decide +kernel
theorem dX5_place_38 : decode cX5_place 38 = .ok (.aload_n 0, 1) := by decide +kernel
theorem dX5_place_39 : decode cX5_place 39 = .ok (.invokevirtual 50, 3) := by decide +kernel
theorem dX5_place_42 : decode cX5_place 42 = .ok (.iload_n 1, 1) := by decide +kernel
theorem dX5_place_43 : decode cX5_place 43 = .ok (.iload_n 2, 1) := by decide +kernel
theorem dX5_place_44 : decode cX5_place 44 = .ok (.ishr, 1) := by decide +kernel
theorem dX5_place_45 : decode cX5_place 45 = .ok (.iconst 1, 1) := by decide +kernel
theorem dX5_place_46 : decode cX5_place 46 = .ok (.iand, 1) := by decide +kernel
theorem dX5_place_47 : decode cX5_place 47 = .ok (.iconst 1, 1) := by decide +kernel
theorem dX5_place_48 : decode cX5_place 48 = .ok (.if_icmp .ne 7, 3) := by decide +kernel
theorem dX5_place_51 : decode cX5_place 51 = .ok (.aload_n 0, 1) := by decide +kernel
theorem dX5_place_52 : decode cX5_place 52 = .ok (.invokevirtual 53, 3) := by decide +kernel
theorem dX5_place_55 : decode cX5_place 55 = .ok (.iinc 2 (-1), 3) := by decide +kernel
theorem dX5_place_58 : decode cX5_place 58 = .ok (.goto (-24), 3) := by decide +kernel
theorem dX5_place_61 : decode cX5_place 61 = .ok (.lconst 0, 1) := by decide +kernel
theorem dX5_place_62 : decode cX5_place 62 = .ok (.lstore_n 2, 1) := by decide +kernel
theorem dX5_place_63 : decode cX5_place 63 = .ok (.iconst 0, 1) := by decide +kernel
theorem dX5_place_64 : decode cX5_place 64 = .ok (.istore 4, 2) := by decide +kernel
theorem dX5_place_66 : decode cX5_place 66 = .ok (.iload 4, 2) := by decide +kernel
theorem dX5_place_68 : decode cX5_place 68 = .ok (.aload_n 0, 1) := by decide +kernel
theorem dX5_place_69 : decode cX5_place 69 = .ok (.getfield 24, 3) := by decide +kernel
theorem dX5_place_72 : decode cX5_place 72 = .ok (.if_icmp .ge 27, 3) := by decide +kernel
theorem dX5_place_75 : decode cX5_place 75 = .ok (.lload_n 2, 1) := by decide +kernel
theorem dX5_place_76 : decode cX5_place 76 = .ok (.aload_n 0, 1) := by decide +kernel
theorem dX5_place_77 : decode cX5_place 77 = .ok (.getfield 18, 3) := by decide +kernel
theorem dX5_place_80 : decode cX5_place 80 = .ok (.iload 4, 2) := by decide +kernel
theorem dX5_place_82 : decode cX5_place 82 = .ok (.laload, 1) := by decide +kernel
theorem dX5_place_83 : decode cX5_place 83 = .ok (.aload_n 0, 1) := by decide +kernel
theorem dX5_place_84 : decode cX5_place 84 = .ok (.getfield 15, 3) := by decide +kernel
theorem dX5_place_87 : decode cX5_place 87 = .ok (.iload 4, 2) := by decide +kernel
theorem dX5_place_89 : decode cX5_place 89 = .ok (.laload, 1) := by decide +kernel
theorem dX5_place_90 : decode cX5_place 90 = .ok (.lmul, 1) := by decide +kernel
theorem dX5_place_91 : decode cX5_place 91 = .ok (.ladd, 1) := by decide +kernel
theorem dX5_place_92 : decode cX5_place 92 = .ok (.lstore_n 2, 1) := by decide +kernel
theorem dX5_place_93 : decode cX5_place 93 = .ok (.iinc 4 1, 3) := by decide +kernel
theorem dX5_place_96 : decode cX5_place 96 = .ok (.goto (-30), 3) := by decide +kernel
theorem dX5_place_99 : decode cX5_place 99 = .ok (.lload_n 2, 1) := by decide +kernel
theorem dX5_place_100 : decode cX5_place 100 = .ok (.aload_n 0, 1) := by decide +kernel
theorem dX5_place_101 : decode cX5_place 101 = .ok (.getfield 28, 3) := by decide +kernel
theorem dX5_place_104 : decode cX5_place 104 = .ok (.i2l, 1) := by decide +kernel
theorem dX5_place_105 : decode cX5_place 105 = .ok (.lrem, 1) := by decide +kernel
theorem dX5_place_106 : decode cX5_place 106 = .ok (.l2i, 1) := by decide +kernel
theorem dX5_place_107 : decode cX5_place 107 = .ok (.ireturn, 1) := by decide +kernel
theorem dX5_square_0 : decode cX5_square 0 = .ok (.iconst 0, 1) := by decide +kernel
theorem dX5_square_1 : decode cX5_square 1 = .ok (.istore_n 1, 1) := by decide +kernel
theorem dX5_square_2 : decode cX5_square 2 = .ok (.iload_n 1, 1) := by decide +kernel
theorem dX5_square_3 : decode cX5_square 3 = .ok (.iconst 2, 1) := by decide +kernel
theorem dX5_square_4 : decode cX5_square 4 = .ok (.aload_n 0, 1) := by decide +kernel
theorem dX5_square_5 : decode cX5_square 5 = .ok (.getfield 24, 3) := by decide +kernel
theorem dX5_square_8 : decode cX5_square 8 = .ok (.imul, 1) := by decide +kernel
theorem dX5_square_9 : decode cX5_square 9 = .ok (.if_icmp .ge 16, 3) := by decide +kernel
theorem dX5_square_12 : decode cX5_square 12 = .ok (.aload_n 0, 1) := by decide +kernel
theorem dX5_square_13 : decode cX5_square 13 = .ok (.getfield 21, 3) := by decide +kernel
theorem dX5_square_16 : decode cX5_square 16 = .ok (.iload_n 1, 1) := by decide +kernel
theorem dX5_square_17 : decode cX5_square 17 = .ok (.lconst 0, 1) := by decide +kernel
theorem dX5_square_18 : decode cX5_square 18 = .ok (.lastore, 1) := by decide +kernel
theorem dX5_square_19 : decode cX5_square 19 = .ok (.iinc 1 1, 3) := by decide +kernel
theorem dX5_square_22 : decode cX5_square 22 = .ok (.goto (-20), 3) := by decide +kernel
theorem dX5_square_25 : decode cX5_square 25 = .ok (.iconst 0, 1) := by decide +kernel
theorem dX5_square_26 : decode cX5_square 26 = .ok (.istore_n 1, 1) := by decide +kernel
theorem dX5_square_27 : decode cX5_square 27 = .ok (.iload_n 1, 1) := by decide +kernel
theorem dX5_square_28 : decode cX5_square 28 = .ok (.aload_n 0, 1) := by decide +kernel
theorem dX5_square_29 : decode cX5_square 29 = .ok (.getfield 24, 3) := by decide +kernel
theorem dX5_square_32 : decode cX5_square 32 = .ok (.if_icmp .ge 49, 3) := by decide +kernel
theorem dX5_square_35 : decode cX5_square 35 = .ok (.iconst 0, 1) := by decide +kernel
theorem dX5_square_36 : decode cX5_square 36 = .ok (.istore_n 2, 1) := by decide +kernel
theorem dX5_square_37 : decode cX5_square 37 = .ok (.iload_n 2, 1) := by decide +kernel
theorem dX5_square_38 : decode cX5_square 38 = .ok (.aload_n 0, 1) := by decide +kernel
theorem dX5_square_39 : decode cX5_square 39 = .ok (.getfield 24, 3) := by decide +kernel
theorem dX5_square_42 : decode cX5_square 42 = .ok (.if_icmp .ge 33, 3) := by decide +kernel
theorem dX5_square_45 : decode cX5_square 45 = .ok (.aload_n 0, 1) := by decide +kernel
theorem dX5_square_46 : decode cX5_square 46 = .ok (.getfield 21, 3) := by decide +kernel
theorem dX5_square_49 : decode cX5_square 49 = .ok (.iload_n 1, 1) := by decide +kernel
theorem dX5_square_50 : decode cX5_square 50 = .ok (.iload_n 2, 1) := by decide +kernel
theorem dX5_square_51 : decode cX5_square 51 = .ok (.iadd, 1) := by decide +kernel
theorem dX5_square_52 : decode cX5_square 52 = .ok (.dup2, 1) := by decide +kernel
theorem dX5_square_53 : decode cX5_square 53 = .ok (.laload, 1) := by decide +kernel
theorem dX5_square_54 : decode cX5_square 54 = .ok (.aload_n 0, 1) := by decide +kernel
theorem dX5_square_55 : decode cX5_square 55 = .ok (.getfield 18, 3) := by decide +kernel
theorem dX5_square_58 : decode cX5_square 58 = .ok (.iload_n 1, 1) := by decide +kernel
theorem dX5_square_59 : decode cX5_square 59 = .ok (.laload, 1) := by decide +kernel
theorem dX5_square_60 : decode cX5_square 60 = .ok (.aload_n 0, 1) := by decide +kernel
theorem dX5_square_61 : decode cX5_square 61 = .ok (.getfield 18, 3) := by decide +kernel
theorem dX5_square_64 : decode cX5_square 64 = .ok (.iload_n 2, 1) := by decide +kernel
theorem dX5_square_65 : decode cX5_square 65 = .ok (.laload, 1) := by decide +kernel
theorem dX5_square_66 : decode cX5_square 66 = .ok (.lmul, 1) := by decide +kernel
theorem dX5_square_67 : decode cX5_square 67 = .ok (.ladd, 1) := by decide +kernel
theorem dX5_square_68 : decode cX5_square 68 = .ok (.lastore, 1) := by decide +kernel
theorem dX5_square_69 : decode cX5_square 69 = .ok (.iinc 2 1, 3) := by decide +kernel
theorem dX5_square_72 : decode cX5_square 72 = .ok (.goto (-35), 3) := by decide +kernel
theorem dX5_square_75 : decode cX5_square 75 = .ok (.iinc 1 1, 3) := by decide +kernel
theorem dX5_square_78 : decode cX5_square 78 = .ok (.goto (-51), 3) := by decide +kernel
theorem dX5_square_81 : decode cX5_square 81 = .ok (.iconst 2, 1) := by decide +kernel
theorem dX5_square_82 : decode cX5_square 82 = .ok (.aload_n 0, 1) := by decide +kernel
theorem dX5_square_83 : decode cX5_square 83 = .ok (.getfield 24, 3) := by decide +kernel
theorem dX5_square_86 : decode cX5_square 86 = .ok (.imul, 1) := by decide +kernel
theorem dX5_square_87 : decode cX5_square 87 = .ok (.iconst 2, 1) := by decide +kernel
theorem dX5_square_88 : decode cX5_square 88 = .ok (.isub, 1) := by decide +kernel
theorem dX5_square_89 : decode cX5_square 89 = .ok (.istore_n 1, 1) := by decide +kernel
theorem dX5_square_90 : decode cX5_square 90 = .ok (.iload_n 1, 1) := by decide +kernel
theorem dX5_square_91 : decode cX5_square 91 = .ok (.aload_n 0, 1) := by decide +kernel
theorem dX5_square_92 : decode cX5_square 92 = .ok (.getfield 24, 3) := by decide +kernel
theorem dX5_square_95 : decode cX5_square 95 = .ok (.if_icmp .lt 61, 3) := by decide +kernel
theorem dX5_square_98 : decode cX5_square 98 = .ok (.aload_n 0, 1) := by decide +kernel
theorem dX5_square_99 : decode cX5_square 99 = .ok (.getfield 21, 3) := by decide +kernel
theorem dX5_square_102 : decode cX5_square 102 = .ok (.iload_n 1, 1) := by decide +kernel
theorem dX5_square_103 : decode cX5_square 103 = .ok (.laload, 1) := by decide +kernel
theorem dX5_square_104 : decode cX5_square 104 = .ok (.aload_n 0, 1) := by decide +kernel
theorem dX5_square_105 : decode cX5_square 105 = .ok (.getfield 28, 3) := by decide +kernel
theorem dX5_square_108 : decode cX5_square 108 = .ok (.i2l, 1) := by decide +kernel
theorem dX5_square_109 : decode cX5_square 109 = .ok (.lrem, 1) := by decide +kernel
theorem dX5_square_110 : decode cX5_square 110 = .ok (.lstore_n 2, 1) := by decide +kernel
theorem dX5_square_111 : decode cX5_square 111 = .ok (.iconst 1, 1) := by decide +kernel
theorem dX5_square_112 : decode cX5_square 112 = .ok (.istore 4, 2) := by decide +kernel
theorem dX5_square_114 : decode cX5_square 114 = .ok (.iload 4, 2) := by decide +kernel
theorem dX5_square_116 : decode cX5_square 116 = .ok (.aload_n 0, 1) := by decide +kernel
theorem dX5_square_117 : decode cX5_square 117 = .ok (.getfield 24, 3) := by decide +kernel
theorem dX5_square_120 : decode cX5_square 120 = .ok (.if_icmp .gt 30, 3) := by decide +kernel
theorem dX5_square_123 : decode cX5_square 123 = .ok (.aload_n 0, 1) := by decide +kernel
theorem dX5_square_124 : decode cX5_square 124 = .ok (.getfield 21, 3) := by decide +kernel
theorem dX5_square_127 : decode cX5_square 127 = .ok (.iload_n 1, 1) := by decide +kernel
theorem dX5_square_128 : decode cX5_square 128 = .ok (.iload 4, 2) := by decide +kernel
theorem dX5_square_130 : decode cX5_square 130 = .ok (.isub, 1) := by decide +kernel
theorem dX5_square_131 : decode cX5_square 131 = .ok (.dup2, 1) := by decide +kernel
theorem dX5_square_132 : decode cX5_square 132 = .ok (.laload, 1) := by decide +kernel
theorem dX5_square_133 : decode cX5_square 133 = .ok (.lload_n 2, 1) := by decide +kernel
theorem dX5_square_134 : decode cX5_square 134 = .ok (.aload_n 0, 1) := by decide +kernel
theorem dX5_square_135 : decode cX5_square 135 = .ok (.getfield 9, 3) := by decide +kernel
theorem dX5_square_138 : decode cX5_square 138 = .ok (.iload 4, 2) := by decide +kernel
theorem dX5_square_140 : decode cX5_square 140 = .ok (.laload, 1) := by decide +kernel
theorem dX5_square_141 : decode cX5_square 141 = .ok (.lmul, 1) := by decide +kernel
theorem dX5_square_142 : decode cX5_square 142 = .ok (.ladd, 1) := by decide +kernel
theorem dX5_square_143 : decode cX5_square 143 = .ok (.lastore, 1) := by decide +kernel
theorem dX5_square_144 : decode cX5_square 144 = .ok (.iinc 4 1, 3) := by decide +kernel
theorem dX5_square_147 : decode cX5_square 147 = .ok (.goto (-33), 3) := by decide +kernel
theorem dX5_square_150 : decode cX5_square 150 = .ok (.iinc 1 (-1), 3) := by decide +kernel
theorem dX5_square_153 : decode cX5_square 153 = .ok (.goto (-63), 3) := by decide +kernel
theorem dX5_square_156 : decode cX5_square 156 = .ok (.iconst 0, 1) := by decide +kernel
theorem dX5_square_157 : decode cX5_square 157 = .ok (.istore_n 1, 1) := by decide +kernel
theorem dX5_square_158 : decode cX5_square 158 = .ok (.iload_n 1, 1) := by decide +kernel
theorem dX5_square_159 : decode cX5_square 159 = .ok (.aload_n 0, 1) := by decide +kernel
theorem dX5_square_160 : decode cX5_square 160 = .ok (.getfield 24, 3) := by decide +kernel
theorem dX5_square_163 : decode cX5_square 163 = .ok (.if_icmp .ge 27, 3) := by decide +kernel
theorem dX5_square_166 : decode cX5_square 166 = .ok (.aload_n 0, 1) := by decide +kernel
theorem dX5_square_167 : decode cX5_square 167 = .ok (.getfield 18, 3) := by decide +kernel
theorem dX5_square_170 : decode cX5_square 170 = .ok (.iload_n 1, 1) := by decide +kernel
theorem dX5_square_171 : decode cX5_square 171 = .ok (.aload_n 0, 1) := by decide +kernel
theorem dX5_square_172 : decode cX5_square 172 = .ok (.getfield 21, 3) := by decide +kernel
theorem dX5_square_175 : decode cX5_square 175 = .ok (.iload_n 1, 1) := by decide +kernel
theorem dX5_square_176 : decode cX5_square 176 = .ok (.laload, 1) := by decide +kernel
theorem dX5_square_177 : decode cX5_square 177 = .ok (.aload_n 0, 1) := by decide +kernel
theorem dX5_square_178 : decode cX5_square 178 = .ok (.getfield 28, 3) := by decide +kernel
theorem dX5_square_181 : decode cX5_square 181 = .ok (.i2l, 1) := by decide +kernel
theorem dX5_square_182 : decode cX5_square 182 = .ok (.lrem, 1) := by decide +kernel
theorem dX5_square_183 : decode cX5_square 183 = .ok (.lastore, 1) := by decide +kernel
theorem dX5_square_184 : decode cX5_square 184 = .ok (.iinc 1 1, 3) := by decide +kernel
theorem dX5_square_187 : decode cX5_square 187 = .ok (.goto (-29), 3) := by decide +kernel
theorem dX5_square_190 : decode cX5_square 190 = .ok (.return_, 1) := by decide +kernel
theorem dX5_timesZ_0 : decode cX5_timesZ 0 = .ok (.aload_n 0, 1) := by decide +kernel
theorem dX5_timesZ_1 : decode cX5_timesZ 1 = .ok (.getfield 18, 3) := by decide +kernel
theorem dX5_timesZ_4 : decode cX5_timesZ 4 = .ok (.aload_n 0, 1) := by decide +kernel
theorem dX5_timesZ_5 : decode cX5_timesZ 5 = .ok (.getfield 24, 3) := by decide +kernel
theorem dX5_timesZ_8 : decode cX5_timesZ 8 = .ok (.iconst 1, 1) := by decide +kernel
theorem dX5_timesZ_9 : decode cX5_timesZ 9 = .ok (.isub, 1) := by decide +kernel
theorem dX5_timesZ_10 : decode cX5_timesZ 10 = .ok (.laload, 1) := by decide +kernel
theorem dX5_timesZ_11 : decode cX5_timesZ 11 = .ok (.lstore_n 1, 1) := by decide +kernel
theorem dX5_timesZ_12 : decode cX5_timesZ 12 = .ok (.aload_n 0, 1) := by decide +kernel
theorem dX5_timesZ_13 : decode cX5_timesZ 13 = .ok (.getfield 24, 3) := by decide +kernel
theorem dX5_timesZ_16 : decode cX5_timesZ 16 = .ok (.iconst 1, 1) := by decide +kernel
theorem dX5_timesZ_17 : decode cX5_timesZ 17 = .ok (.isub, 1) := by decide +kernel
theorem dX5_timesZ_18 : decode cX5_timesZ 18 = .ok (.istore_n 3, 1) := by decide +kernel
theorem dX5_timesZ_19 : decode cX5_timesZ 19 = .ok (.iload_n 3, 1) := by decide +kernel
theorem dX5_timesZ_20 : decode cX5_timesZ 20 = .ok (.ifCond .lt 55, 3) := by decide +kernel
theorem dX5_timesZ_23 : decode cX5_timesZ 23 = .ok (.iload_n 3, 1) := by decide +kernel
theorem dX5_timesZ_24 : decode cX5_timesZ 24 = .ok (.ifCond .ne 7, 3) := by decide +kernel
theorem dX5_timesZ_27 : decode cX5_timesZ 27 = .ok (.lconst 0, 1) := by decide +kernel
theorem dX5_timesZ_28 : decode cX5_timesZ 28 = .ok (.goto 11, 3) := by decide +kernel
theorem dX5_timesZ_31 : decode cX5_timesZ 31 = .ok (.aload_n 0, 1) := by decide +kernel
theorem dX5_timesZ_32 : decode cX5_timesZ 32 = .ok (.getfield 18, 3) := by decide +kernel
theorem dX5_timesZ_35 : decode cX5_timesZ 35 = .ok (.iload_n 3, 1) := by decide +kernel
theorem dX5_timesZ_36 : decode cX5_timesZ 36 = .ok (.iconst 1, 1) := by decide +kernel
theorem dX5_timesZ_37 : decode cX5_timesZ 37 = .ok (.isub, 1) := by decide +kernel
theorem dX5_timesZ_38 : decode cX5_timesZ 38 = .ok (.laload, 1) := by decide +kernel
theorem dX5_timesZ_39 : decode cX5_timesZ 39 = .ok (.lstore 4, 2) := by decide +kernel
theorem dX5_timesZ_41 : decode cX5_timesZ 41 = .ok (.aload_n 0, 1) := by decide +kernel
theorem dX5_timesZ_42 : decode cX5_timesZ 42 = .ok (.getfield 18, 3) := by decide +kernel
theorem dX5_timesZ_45 : decode cX5_timesZ 45 = .ok (.iload_n 3, 1) := by decide +kernel
theorem dX5_timesZ_46 : decode cX5_timesZ 46 = .ok (.lload 4, 2) := by decide +kernel
theorem dX5_timesZ_48 : decode cX5_timesZ 48 = .ok (.lload_n 1, 1) := by decide +kernel
theorem dX5_timesZ_49 : decode cX5_timesZ 49 = .ok (.aload_n 0, 1) := by decide +kernel
theorem dX5_timesZ_50 : decode cX5_timesZ 50 = .ok (.getfield 9, 3) := by decide +kernel
theorem dX5_timesZ_53 : decode cX5_timesZ 53 = .ok (.aload_n 0, 1) := by decide +kernel
theorem dX5_timesZ_54 : decode cX5_timesZ 54 = .ok (.getfield 24, 3) := by decide +kernel
theorem dX5_timesZ_57 : decode cX5_timesZ 57 = .ok (.iload_n 3, 1) := by decide +kernel
theorem dX5_timesZ_58 : decode cX5_timesZ 58 = .ok (.isub, 1) := by decide +kernel
theorem dX5_timesZ_59 : decode cX5_timesZ 59 = .ok (.laload, 1) := by decide +kernel
theorem dX5_timesZ_60 : decode cX5_timesZ 60 = .ok (.lmul, 1) := by decide +kernel
theorem dX5_timesZ_61 : decode cX5_timesZ 61 = .ok (.ladd, 1) := by decide +kernel
theorem dX5_timesZ_62 : decode cX5_timesZ 62 = .ok (.aload_n 0, 1) := by decide +kernel
theorem dX5_timesZ_63 : decode cX5_timesZ 63 = .ok (.getfield 28, 3) := by decide +kernel
theorem dX5_timesZ_66 : decode cX5_timesZ 66 = .ok (.i2l, 1) := by decide +kernel
theorem dX5_timesZ_67 : decode cX5_timesZ 67 = .ok (.lrem, 1) := by decide +kernel
theorem dX5_timesZ_68 : decode cX5_timesZ 68 = .ok (.lastore, 1) := by decide +kernel
theorem dX5_timesZ_69 : decode cX5_timesZ 69 = .ok (.iinc 3 (-1), 3) := by decide +kernel
theorem dX5_timesZ_72 : decode cX5_timesZ 72 = .ok (.goto (-53), 3) := by decide +kernel
theorem dX5_timesZ_75 : decode cX5_timesZ 75 = .ok (.return_, 1) := by decide +kernel
theorem dX6_init_0 : decode cX6_init 0 = .ok (.aload_n 0, 1) := by decide +kernel
theorem dX6_init_1 : decode cX6_init 1 = .ok (.invokespecial 3, 3) := by decide +kernel
theorem dX6_init_4 : decode cX6_init 4 = .ok (.aload_n 0, 1) := by decide +kernel
theorem dX6_init_5 : decode cX6_init 5 = .ok (.new 9, 3) := by decide +kernel
theorem dX6_init_8 : decode cX6_init 8 = .ok (.dup, 1) := by decide +kernel
theorem dX6_init_9 : decode cX6_init 9 = .ok (.invokespecial 11, 3) := by decide +kernel
theorem dX6_init_12 : decode cX6_init 12 = .ok (.putfield 12, 3) := by decide +kernel
theorem dX6_init_15 : decode cX6_init 15 = .ok (.aload_n 0, 1) := by decide +kernel
theorem dX6_init_16 : decode cX6_init 16 = .ok (.bipush 55, 2) := by decide +kernel
theorem dX6_init_18 : decode cX6_init 18 = .ok (.newarray .long, 2) := by decide +kernel
theorem dX6_init_20 : decode cX6_init 20 = .ok (.putfield 18, 3) := by decide +kernel
theorem dX6_init_23 : decode cX6_init 23 = .ok (.aload_n 0, 1) := by decide +kernel
theorem dX6_init_24 : decode cX6_init 24 = .ok (.bipush 64, 2) := by decide +kernel
theorem dX6_init_26 : decode cX6_init 26 = .ok (.newarray .long, 2) := by decide +kernel
theorem dX6_init_28 : decode cX6_init 28 = .ok (.putfield 22, 3) := by decide +kernel
theorem dX6_init_31 : decode cX6_init 31 = .ok (.aload_n 0, 1) := by decide +kernel
theorem dX6_init_32 : decode cX6_init 32 = .ok (.iconst 0, 1) := by decide +kernel
theorem dX6_init_33 : decode cX6_init 33 = .ok (.putfield 25, 3) := by decide +kernel
theorem dX6_init_36 : decode cX6_init 36 = .ok (.aload_n 0, 1) := by decide +kernel
theorem dX6_init_37 : decode cX6_init 37 = .ok (.iconst 1, 1) := by decide +kernel
theorem dX6_init_38 : decode cX6_init 38 = .ok (.putfield 29, 3) := by decide +kernel
theorem dX6_init_41 : decode cX6_init 41 = .ok (.return_, 1) := by decide +kernel
theorem dX6_find_0 : decode cX6_find 0 = .ok (.aload_n 0, 1) := by decide +kernel
theorem dX6_find_1 : decode cX6_find 1 = .ok (.getfield 12, 3) := by decide +kernel
theorem dX6_find_4 : decode cX6_find 4 = .ok (.aload_n 1, 1) := by decide +kernel
theorem dX6_find_5 : decode cX6_find 5 = .ok (.iload_n 2, 1) := by decide +kernel
theorem dX6_find_6 : decode cX6_find 6 = .ok (.invokevirtual 32, 3) := by decide +kernel
theorem dX6_find_9 : decode cX6_find 9 = .ok (.iconst 0, 1) := by decide +kernel
theorem dX6_find_10 : decode cX6_find 10 = .ok (.istore_n 3, 1) := by decide +kernel
theorem dX6_find_11 : decode cX6_find 11 = .ok (.iload_n 3, 1) := by decide +kernel
theorem dX6_find_12 : decode cX6_find 12 = .ok (.bipush 54, 2) := by decide +kernel
theorem dX6_find_14 : decode cX6_find 14 = .ok (.if_icmp .gt 45, 3) := by decide +kernel
theorem dX6_find_17 : decode cX6_find 17 = .ok (.aload_n 0, 1) := by decide +kernel
theorem dX6_find_18 : decode cX6_find 18 = .ok (.getfield 18, 3) := by decide +kernel
theorem dX6_find_21 : decode cX6_find 21 = .ok (.iload_n 3, 1) := by decide +kernel
theorem dX6_find_22 : decode cX6_find 22 = .ok (.aload_n 0, 1) := by decide +kernel
theorem dX6_find_23 : decode cX6_find 23 = .ok (.getfield 12, 3) := by decide +kernel
theorem dX6_find_26 : decode cX6_find 26 = .ok (.getfield 36, 3) := by decide +kernel
theorem dX6_find_29 : decode cX6_find 29 = .ok (.lastore, 1) := by decide +kernel
theorem dX6_find_30 : decode cX6_find 30 = .ok (.aload_n 0, 1) := by decide +kernel
theorem dX6_find_31 : decode cX6_find 31 = .ok (.getfield 22, 3) := by decide +kernel
theorem dX6_find_34 : decode cX6_find 34 = .ok (.iload_n 3, 1) := by decide +kernel
theorem dX6_find_35 : decode cX6_find 35 = .ok (.bipush 64, 2) := by decide +kernel
theorem dX6_find_37 : decode cX6_find 37 = .ok (.irem, 1) := by decide +kernel
theorem dX6_find_38 : decode cX6_find 38 = .ok (.aload_n 0, 1) := by decide +kernel
theorem dX6_find_39 : decode cX6_find 39 = .ok (.getfield 12, 3) := by decide +kernel
theorem dX6_find_42 : decode cX6_find 42 = .ok (.getfield 36, 3) := by decide +kernel
theorem dX6_find_45 : decode cX6_find 45 = .ok (.lastore, 1) := by decide +kernel
theorem dX6_find_46 : decode cX6_find 46 = .ok (.aload_n 0, 1) := by decide +kernel
theorem dX6_find_47 : decode cX6_find 47 = .ok (.getfield 12, 3) := by decide +kernel
theorem dX6_find_50 : decode cX6_find 50 = .ok (.invokevirtual 40, 3) := by decide +kernel
theorem dX6_find_53 : decode cX6_find 53 = .ok (.iinc 3 1, 3) := by decide +kernel
theorem dX6_find_56 : decode cX6_find 56 = .ok (.goto (-45), 3) := by decide +kernel
theorem dX6_find_59 : decode cX6_find 59 = .ok (.aload_n 0, 1) := by decide +kernel
theorem dX6_find_60 : decode cX6_find 60 = .ok (.aload_n 0, 1) := by decide +kernel
theorem dX6_find_61 : decode cX6_find 61 = .ok (.invokevirtual 43, 3) := by decide +kernel
theorem dX6_find_64 : decode cX6_find 64 = .ok (.putfield 29, 3) := by decide +kernel
theorem dX6_find_67 : decode cX6_find 67 = .ok (.aload_n 0, 1) := by decide +kernel
theorem dX6_find_68 : decode cX6_find 68 = .ok (.getfield 29, 3) := by decide +kernel
theorem dX6_find_71 : decode cX6_find 71 = .ok (.ldc 47, 2) := by decide +kernel
theorem dX6_find_73 : decode cX6_find 73 = .ok (.if_icmp .le 5, 3) := by decide +kernel
theorem dX6_find_76 : decode cX6_find 76 = .ok (.iconst 0, 1) := by decide +kernel
theorem dX6_find_77 : decode cX6_find 77 = .ok (.ireturn, 1) := by decide +kernel
theorem dX6_find_78 : decode cX6_find 78 = .ok (.aload_n 0, 1) := by decide +kernel
theorem dX6_find_79 : decode cX6_find 79 = .ok (.bipush 54, 2) := by decide +kernel
theorem dX6_find_81 : decode cX6_find 81 = .ok (.putfield 25, 3) := by decide +kernel
theorem dX6_find_84 : decode cX6_find 84 = .ok (.aload_n 0, 1) := by decide +kernel
theorem dX6_find_85 : decode cX6_find 85 = .ok (.getfield 25, 3) := by decide +kernel
theorem dX6_find_88 : decode cX6_find 88 = .ok (.ifCond .le 50, 3) := by decide +kernel
theorem dX6_find_91 : decode cX6_find 91 = .ok (.aload_n 0, 1) := by decide +kernel
theorem dX6_find_92 : decode cX6_find 92 = .ok (.getfield 18, 3) := by decide +kernel
theorem dX6_find_95 : decode cX6_find 95 = .ok (.aload_n 0, 1) := by decide +kernel
theorem dX6_find_96 : decode cX6_find 96 = .ok (.getfield 25, 3) := by decide +kernel
theorem dX6_find_99 : decode cX6_find 99 = .ok (.iconst 1, 1) := by decide +kernel
theorem dX6_find_100 : decode cX6_find 100 = .ok (.isub, 1) := by decide +kernel
theorem dX6_find_101 : decode cX6_find 101 = .ok (.laload, 1) := by decide +kernel
theorem dX6_find_102 : decode cX6_find 102 = .ok (.aload_n 0, 1) := by decide +kernel
theorem dX6_find_103 : decode cX6_find 103 = .ok (.getfield 22, 3) := by decide +kernel
theorem dX6_find_106 : decode cX6_find 106 = .ok (.aload_n 0, 1) := by decide +kernel
theorem dX6_find_107 : decode cX6_find 107 = .ok (.getfield 25, 3) := by decide +kernel
theorem dX6_find_110 : decode cX6_find 110 = .ok (.iconst 1, 1) := by decide +kernel
theorem dX6_find_111 : decode cX6_find 111 = .ok (.isub, 1) := by decide +kernel
theorem dX6_find_112 : decode cX6_find 112 = .ok (.aload_n 0, 1) := by decide +kernel
theorem dX6_find_113 : decode cX6_find 113 = .ok (.getfield 29, 3) := by decide +kernel
theorem dX6_find_116 : decode cX6_find 116 = .ok (.iadd, 1) := by decide +kernel
theorem dX6_find_117 : decode cX6_find 117 = .ok (.bipush 64, 2) := by decide +kernel
theorem dX6_find_119 : decode cX6_find 119 = .ok (.irem, 1) := by decide +kernel
theorem dX6_find_120 : decode cX6_find 120 = .ok (.laload, 1) := by decide +kernel
theorem dX6_find_121 : decode cX6_find 121 = .ok (.lcmp, 1) := by decide +kernel
theorem dX6_find_122 : decode cX6_find 122 = .ok (.ifCond .ne 16, 3) := by decide +kernel
theorem dX6_find_125 : decode cX6_find 125 = .ok (.aload_n 0, 1) := by decide +kernel
theorem dX6_find_126 : decode cX6_find 126 = .ok (.dup, 1) := by decide +kernel
theorem dX6_find_127 : decode cX6_find 127 = .ok (.getfield 25, 3) := by decide +kernel
theorem dX6_find_130 : decode cX6_find 130 = .ok (.iconst 1, 1) := by decide +kernel
theorem dX6_find_131 : decode cX6_find 131 = .ok (.isub, 1) := by decide +kernel
theorem dX6_find_132 : decode cX6_find 132 = .ok (.putfield 25, 3) := by decide +kernel
theorem dX6_find_135 : decode cX6_find 135 = .ok (.goto (-51), 3) := by decide +kernel
theorem dX6_find_138 : decode cX6_find 138 = .ok (.aload_n 0, 1) := by decide +kernel
theorem dX6_find_139 : decode cX6_find 139 = .ok (.getfield 25, 3) := by decide +kernel
theorem dX6_find_142 : decode cX6_find 142 = .ok (.aload_n 0, 1) := by decide +kernel
theorem dX6_find_143 : decode cX6_find 143 = .ok (.getfield 29, 3) := by decide +kernel
theorem dX6_find_146 : decode cX6_find 146 = .ok (.iadd, 1) := by decide +kernel
theorem dX6_find_147 : decode cX6_find 147 = .ok (.ldc 47, 2) := by decide +kernel
theorem dX6_find_149 : decode cX6_find 149 = .ok (.if_icmp .gt 7, 3) := by decide +kernel
theorem dX6_find_152 : decode cX6_find 152 = .ok (.iconst 1, 1) := by decide +kernel
theorem dX6_find_153 : decode cX6_find 153 = .ok (.goto 4, 3) := by decide +kernel
theorem dX6_find_156 : decode cX6_find 156 = .ok (.iconst 0, 1) := by decide +kernel
theorem dX6_find_157 : decode cX6_find 157 = .ok (.ireturn, 1) := by decide +kernel
theorem dX6_findTurn_0 : decode cX6_findTurn 0 = .ok (.iconst 1, 1) := by decide +kernel
theorem dX6_findTurn_1 : decode cX6_findTurn 1 = .ok (.istore_n 1, 1) := by decide +kernel
theorem dX6_findTurn_2 : decode cX6_findTurn 2 = .ok (.iload_n 1, 1) := by decide +kernel
theorem dX6_findTurn_3 : decode cX6_findTurn 3 = .ok (.ldc 47, 2) := by decide +kernel
theorem dX6_findTurn_5 : decode cX6_findTurn 5 = .ok (.if_icmp .gt 55, 3) := by decide +kernel
theorem dX6_findTurn_8 : decode cX6_findTurn 8 = .ok (.aload_n 0, 1) := by decide +kernel
theorem dX6_findTurn_9 : decode cX6_findTurn 9 = .ok (.getfield 22, 3) := by decide +kernel
theorem dX6_findTurn_12 : decode cX6_findTurn 12 = .ok (.bipush 54, 2) := by decide +kernel
theorem dX6_findTurn_14 : decode cX6_findTurn 14 = .ok (.iload_n 1, 1) := by decide +kernel
theorem dX6_findTurn_15 : decode cX6_findTurn 15 = .ok (.iadd, 1) := by decide +kernel
theorem dX6_findTurn_16 : decode cX6_findTurn 16 = .ok (.bipush 64, 2) := by decide +kernel
theorem dX6_findTurn_18 : decode cX6_findTurn 18 = .ok (.irem, 1) := by decide +kernel
theorem dX6_findTurn_19 : decode cX6_findTurn 19 = .ok (.aload_n 0, 1) := by decide +kernel
theorem dX6_findTurn_20 : decode cX6_findTurn 20 = .ok (.getfield 12, 3) := by decide +kernel
theorem dX6_findTurn_23 : decode cX6_findTurn 23 = .ok (.getfield 36, 3) := by decide +kernel
theorem dX6_findTurn_26 : decode cX6_findTurn 26 = .ok (.lastore, 1) := by decide +kernel
theorem dX6_findTurn_27 : decode cX6_findTurn 27 = .ok (.aload_n 0, 1) := by decide +kernel
theorem dX6_findTurn_28 : decode cX6_findTurn 28 = .ok (.getfield 12, 3) := by decide +kernel
theorem dX6_findTurn_31 : decode cX6_findTurn 31 = .ok (.getfield 36, 3) := by decide +kernel
theorem dX6_findTurn_34 : decode cX6_findTurn 34 = .ok (.aload_n 0, 1) := by decide +kernel
theorem dX6_findTurn_35 : decode cX6_findTurn 35 = .ok (.getfield 18, 3) := by decide +kernel
theorem dX6_findTurn_38 : decode cX6_findTurn 38 = .ok (.bipush 54, 2) := by decide +kernel
theorem dX6_findTurn_40 : decode cX6_findTurn 40 = .ok (.laload, 1) := by decide +kernel
theorem dX6_findTurn_41 : decode cX6_findTurn 41 = .ok (.lcmp, 1) := by decide +kernel
theorem dX6_findTurn_42 : decode cX6_findTurn 42 = .ok (.ifCond .ne 5, 3) := by decide +kernel
theorem dX6_findTurn_45 : decode cX6_findTurn 45 = .ok (.iload_n 1, 1) := by decide +kernel
theorem dX6_findTurn_46 : decode cX6_findTurn 46 = .ok (.ireturn, 1) := by decide +kernel
theorem dX6_findTurn_47 : decode cX6_findTurn 47 = .ok (.aload_n 0, 1) := by decide +kernel
theorem dX6_findTurn_48 : decode cX6_findTurn 48 = .ok (.getfield 12, 3) := by decide +kernel
theorem dX6_findTurn_51 : decode cX6_findTurn 51 = .ok (.invokevirtual 40, 3) := by decide +kernel
theorem dX6_findTurn_54 : decode cX6_findTurn 54 = .ok (.iinc 1 1, 3) := by decide +kernel
theorem dX6_findTurn_57 : decode cX6_findTurn 57 = .ok (.goto (-55), 3) := by decide +kernel
theorem dX6_findTurn_60 : decode cX6_findTurn 60 = .ok (.ldc 48, 2) := by decide +kernel
theorem dX6_findTurn_62 : decode cX6_findTurn 62 = .ok (.ireturn, 1) := by decide +kernel
theorem dX6_noughts_0 : decode cX6_noughts 0 = .ok (.iconst 0, 1) := by decide +kernel
theorem dX6_noughts_1 : decode cX6_noughts 1 = .ok (.istore_n 3, 1) := by decide +kernel
theorem dX6_noughts_2 : decode cX6_noughts 2 = .ok (.aload_n 0, 1) := by decide +kernel
theorem dX6_noughts_3 : decode cX6_noughts 3 = .ok (.getfield 12, 3) := by decide +kernel
theorem dX6_noughts_6 : decode cX6_noughts 6 = .ok (.aload_n 1, 1) := by decide +kernel
theorem dX6_noughts_7 : decode cX6_noughts 7 = .ok (.iload_n 2, 1) := by decide +kernel
theorem dX6_noughts_8 : decode cX6_noughts 8 = .ok (.invokevirtual 32, 3) := by decide +kernel
theorem dX6_noughts_11 : decode cX6_noughts 11 = .ok (.iconst 0, 1) := by decide +kernel
theorem dX6_noughts_12 : decode cX6_noughts 12 = .ok (.istore 4, 2) := by decide +kernel
theorem dX6_noughts_14 : decode cX6_noughts 14 = .ok (.iload 4, 2) := by decide +kernel
theorem dX6_noughts_16 : decode cX6_noughts 16 = .ok (.aload_n 0, 1) := by decide +kernel
theorem dX6_noughts_17 : decode cX6_noughts 17 = .ok (.getfield 25, 3) := by decide +kernel
theorem dX6_noughts_20 : decode cX6_noughts 20 = .ok (.aload_n 0, 1) := by decide +kernel
theorem dX6_noughts_21 : decode cX6_noughts 21 = .ok (.getfield 29, 3) := by decide +kernel
theorem dX6_noughts_24 : decode cX6_noughts 24 = .ok (.iadd, 1) := by decide +kernel
theorem dX6_noughts_25 : decode cX6_noughts 25 = .ok (.if_icmp .ge 29, 3) := by decide +kernel
theorem dX6_noughts_28 : decode cX6_noughts 28 = .ok (.aload_n 0, 1) := by decide +kernel
theorem dX6_noughts_29 : decode cX6_noughts 29 = .ok (.getfield 12, 3) := by decide +kernel
theorem dX6_noughts_32 : decode cX6_noughts 32 = .ok (.invokevirtual 49, 3) := by decide +kernel
theorem dX6_noughts_35 : decode cX6_noughts 35 = .ok (.ifCond .ne 6, 3) := by decide +kernel
theorem dX6_noughts_38 : decode cX6_noughts 38 = .ok (.iinc 3 1, 3) := by decide +kernel
theorem dX6_noughts_41 : decode cX6_noughts 41 = .ok (.aload_n 0, 1) := by decide +kernel
theorem dX6_noughts_42 : decode cX6_noughts 42 = .ok (.getfield 12, 3) := by decide +kernel
theorem dX6_noughts_45 : decode cX6_noughts 45 = .ok (.invokevirtual 40, 3) := by decide +kernel
theorem dX6_noughts_48 : decode cX6_noughts 48 = .ok (.iinc 4 1, 3) := by decide +kernel
theorem dX6_noughts_51 : decode cX6_noughts 51 = .ok (.goto (-37), 3) := by decide +kernel
theorem dX6_noughts_54 : decode cX6_noughts 54 = .ok (.iload_n 3, 1) := by decide +kernel
theorem dX6_noughts_55 : decode cX6_noughts 55 = .ok (.ireturn, 1) := by decide +kernel
theorem dX6_leastPlaceOf_0 : decode cX6_leastPlaceOf 0 = .ok (.aload_n 0, 1) := by decide +kernel
theorem dX6_leastPlaceOf_1 : decode cX6_leastPlaceOf 1 = .ok (.getfield 12, 3) := by decide +kernel
theorem dX6_leastPlaceOf_4 : decode cX6_leastPlaceOf 4 = .ok (.aload_n 1, 1) := by decide +kernel
theorem dX6_leastPlaceOf_5 : decode cX6_leastPlaceOf 5 = .ok (.iload_n 2, 1) := by decide +kernel
theorem dX6_leastPlaceOf_6 : decode cX6_leastPlaceOf 6 = .ok (.invokevirtual 32, 3) := by decide +kernel
theorem dX6_leastPlaceOf_9 : decode cX6_leastPlaceOf 9 = .ok (.iconst 0, 1) := by decide +kernel
theorem dX6_leastPlaceOf_10 : decode cX6_leastPlaceOf 10 = .ok (.istore 4, 2) := by decide +kernel
theorem dX6_leastPlaceOf_12 : decode cX6_leastPlaceOf 12 = .ok (.iload 4, 2) := by decide +kernel
theorem dX6_leastPlaceOf_14 : decode cX6_leastPlaceOf 14 = .ok (.aload_n 0, 1) := by decide +kernel
theorem dX6_leastPlaceOf_15 : decode cX6_leastPlaceOf 15 = .ok (.getfield 25, 3) := by decide +kernel
theorem dX6_leastPlaceOf_18 : decode cX6_leastPlaceOf 18 = .ok (.aload_n 0, 1) := by decide +kernel
theorem dX6_leastPlaceOf_19 : decode cX6_leastPlaceOf 19 = .ok (.getfield 29, 3) := by decide +kernel
theorem dX6_leastPlaceOf_22 : decode cX6_leastPlaceOf 22 = .ok (.iadd, 1) := by decide +kernel
theorem dX6_leastPlaceOf_23 : decode cX6_leastPlaceOf 23 = .ok (.if_icmp .ge 30, 3) := by decide +kernel
theorem dX6_leastPlaceOf_26 : decode cX6_leastPlaceOf 26 = .ok (.aload_n 0, 1) := by decide +kernel
theorem dX6_leastPlaceOf_27 : decode cX6_leastPlaceOf 27 = .ok (.getfield 12, 3) := by decide +kernel
theorem dX6_leastPlaceOf_30 : decode cX6_leastPlaceOf 30 = .ok (.invokevirtual 49, 3) := by decide +kernel
theorem dX6_leastPlaceOf_33 : decode cX6_leastPlaceOf 33 = .ok (.iload_n 3, 1) := by decide +kernel
theorem dX6_leastPlaceOf_34 : decode cX6_leastPlaceOf 34 = .ok (.if_icmp .ne 6, 3) := by decide +kernel
theorem dX6_leastPlaceOf_37 : decode cX6_leastPlaceOf 37 = .ok (.iload 4, 2) := by decide +kernel
theorem dX6_leastPlaceOf_39 : decode cX6_leastPlaceOf 39 = .ok (.ireturn, 1) := by decide +kernel
theorem dX6_leastPlaceOf_40 : decode cX6_leastPlaceOf 40 = .ok (.aload_n 0, 1) := by decide +kernel
theorem dX6_leastPlaceOf_41 : decode cX6_leastPlaceOf 41 = .ok (.getfield 12, 3) := by decide +kernel
theorem dX6_leastPlaceOf_44 : decode cX6_leastPlaceOf 44 = .ok (.invokevirtual 40, 3) := by decide +kernel
theorem dX6_leastPlaceOf_47 : decode cX6_leastPlaceOf 47 = .ok (.iinc 4 1, 3) := by decide +kernel
theorem dX6_leastPlaceOf_50 : decode cX6_leastPlaceOf 50 = .ok (.goto (-38), 3) := by decide +kernel
theorem dX6_leastPlaceOf_53 : decode cX6_leastPlaceOf 53 = .ok (.bipush (-4), 2) := by decide +kernel
theorem dX6_leastPlaceOf_55 : decode cX6_leastPlaceOf 55 = .ok (.ireturn, 1) := by decide +kernel
theorem dX7_init_0 : decode cX7_init 0 = .ok (.aload_n 0, 1) := by decide +kernel
theorem dX7_init_1 : decode cX7_init 1 = .ok (.invokespecial 3, 3) := by decide +kernel
theorem dX7_init_4 : decode cX7_init 4 = .ok (.aload_n 0, 1) := by decide +kernel
theorem dX7_init_5 : decode cX7_init 5 = .ok (.iconst 1, 1) := by decide +kernel
theorem dX7_init_6 : decode cX7_init 6 = .ok (.putfield 9, 3) := by decide +kernel
theorem dX7_init_9 : decode cX7_init 9 = .ok (.aload_n 0, 1) := by decide +kernel
theorem dX7_init_10 : decode cX7_init 10 = .ok (.bipush 7, 2) := by decide +kernel
theorem dX7_init_12 : decode cX7_init 12 = .ok (.newarray .long, 2) := by decide +kernel
theorem dX7_init_14 : decode cX7_init 14 = .ok (.putfield 15, 3) := by decide +kernel
theorem dX7_init_17 : decode cX7_init 17 = .ok (.aload_n 0, 1) := by decide +kernel
theorem dX7_init_18 : decode cX7_init 18 = .ok (.bipush 6, 2) := by decide +kernel
theorem dX7_init_20 : decode cX7_init 20 = .ok (.newarray .long, 2) := by decide +kernel
theorem dX7_init_22 : decode cX7_init 22 = .ok (.putfield 19, 3) := by decide +kernel
theorem dX7_init_25 : decode cX7_init 25 = .ok (.aload_n 0, 1) := by decide +kernel
theorem dX7_init_26 : decode cX7_init 26 = .ok (.getfield 15, 3) := by decide +kernel
theorem dX7_init_29 : decode cX7_init 29 = .ok (.iconst 0, 1) := by decide +kernel
theorem dX7_init_30 : decode cX7_init 30 = .ok (.ldc2_w 22, 3) := by decide +kernel
theorem dX7_init_33 : decode cX7_init 33 = .ok (.lastore, 1) := by decide +kernel
theorem dX7_init_34 : decode cX7_init 34 = .ok (.aload_n 0, 1) := by decide +kernel
theorem dX7_init_35 : decode cX7_init 35 = .ok (.getfield 15, 3) := by decide +kernel
theorem dX7_init_38 : decode cX7_init 38 = .ok (.iconst 1, 1) := by decide +kernel
theorem dX7_init_39 : decode cX7_init 39 = .ok (.lconst 1, 1) := by decide +kernel
theorem dX7_init_40 : decode cX7_init 40 = .ok (.lastore, 1) := by decide +kernel
theorem dX7_init_41 : decode cX7_init 41 = .ok (.return_, 1) := by decide +kernel
theorem dX7_become_0 : decode cX7_become 0 = .ok (.aload_n 0, 1) := by decide +kernel
theorem dX7_become_1 : decode cX7_become 1 = .ok (.aload_n 1, 1) := by decide +kernel
theorem dX7_become_2 : decode cX7_become 2 = .ok (.getfield 9, 3) := by decide +kernel
theorem dX7_become_5 : decode cX7_become 5 = .ok (.putfield 9, 3) := by decide +kernel
theorem dX7_become_8 : decode cX7_become 8 = .ok (.aload_n 1, 1) := by decide +kernel
theorem dX7_become_9 : decode cX7_become 9 = .ok (.getfield 15, 3) := by decide +kernel
theorem dX7_become_12 : decode cX7_become 12 = .ok (.iconst 0, 1) := by decide +kernel
theorem dX7_become_13 : decode cX7_become 13 = .ok (.aload_n 0, 1) := by decide +kernel
theorem dX7_become_14 : decode cX7_become 14 = .ok (.getfield 15, 3) := by decide +kernel
theorem dX7_become_17 : decode cX7_become 17 = .ok (.iconst 0, 1) := by decide +kernel
theorem dX7_become_18 : decode cX7_become 18 = .ok (.aload_n 0, 1) := by decide +kernel
theorem dX7_become_19 : decode cX7_become 19 = .ok (.getfield 15, 3) := by decide +kernel
theorem dX7_become_22 : decode cX7_become 22 = .ok (.arraylength, 1) := by decide +kernel
theorem dX7_become_23 : decode cX7_become 23 = .ok (.invokestatic 24, 3) := by decide +kernel
theorem dX7_become_26 : decode cX7_become 26 = .ok (.aload_n 1, 1) := by decide +kernel
theorem dX7_become_27 : decode cX7_become 27 = .ok (.getfield 19, 3) := by decide +kernel
theorem dX7_become_30 : decode cX7_become 30 = .ok (.iconst 0, 1) := by decide +kernel
theorem dX7_become_31 : decode cX7_become 31 = .ok (.aload_n 0, 1) := by decide +kernel
theorem dX7_become_32 : decode cX7_become 32 = .ok (.getfield 19, 3) := by decide +kernel
theorem dX7_become_35 : decode cX7_become 35 = .ok (.iconst 0, 1) := by decide +kernel
theorem dX7_become_36 : decode cX7_become 36 = .ok (.aload_n 0, 1) := by decide +kernel
theorem dX7_become_37 : decode cX7_become 37 = .ok (.getfield 19, 3) := by decide +kernel
theorem dX7_become_40 : decode cX7_become 40 = .ok (.arraylength, 1) := by decide +kernel
theorem dX7_become_41 : decode cX7_become 41 = .ok (.invokestatic 24, 3) := by decide +kernel
theorem dX7_become_44 : decode cX7_become 44 = .ok (.return_, 1) := by decide +kernel
theorem dX7_tellNumbers_0 : decode cX7_tellNumbers 0 = .ok (.iload_n 2, 1) := by decide +kernel
theorem dX7_tellNumbers_1 : decode cX7_tellNumbers 1 = .ok (.aload_n 1, 1) := by decide +kernel
theorem dX7_tellNumbers_2 : decode cX7_tellNumbers 2 = .ok (.arraylength, 1) := by decide +kernel
theorem dX7_tellNumbers_3 : decode cX7_tellNumbers 3 = .ok (.iconst 1, 1) := by decide +kernel
theorem dX7_tellNumbers_4 : decode cX7_tellNumbers 4 = .ok (.isub, 1) := by decide +kernel
theorem dX7_tellNumbers_5 : decode cX7_tellNumbers 5 = .ok (.invokestatic 30, 3) := by decide +kernel
theorem dX7_tellNumbers_8 : decode cX7_tellNumbers 8 = .ok (.istore_n 3, 1) := by decide +kernel
theorem dX7_tellNumbers_9 : decode cX7_tellNumbers 9 = .ok (.iconst 0, 1) := by decide +kernel
theorem dX7_tellNumbers_10 : decode cX7_tellNumbers 10 = .ok (.istore 4, 2) := by decide +kernel
theorem dX7_tellNumbers_12 : decode cX7_tellNumbers 12 = .ok (.iload 4, 2) := by decide +kernel
theorem dX7_tellNumbers_14 : decode cX7_tellNumbers 14 = .ok (.iload_n 3, 1) := by decide +kernel
theorem dX7_tellNumbers_15 : decode cX7_tellNumbers 15 = .ok (.if_icmp .gt 58, 3) := by decide +kernel
theorem dX7_tellNumbers_18 : decode cX7_tellNumbers 18 = .ok (.iload 4, 2) := by decide +kernel
theorem dX7_tellNumbers_20 : decode cX7_tellNumbers 20 = .ok (.aload_n 0, 1) := by decide +kernel
theorem dX7_tellNumbers_21 : decode cX7_tellNumbers 21 = .ok (.getfield 9, 3) := by decide +kernel
theorem dX7_tellNumbers_24 : decode cX7_tellNumbers 24 = .ok (.if_icmp .ge 13, 3) := by decide +kernel
theorem dX7_tellNumbers_27 : decode cX7_tellNumbers 27 = .ok (.aload_n 0, 1) := by decide +kernel
theorem dX7_tellNumbers_28 : decode cX7_tellNumbers 28 = .ok (.getfield 19, 3) := by decide +kernel
theorem dX7_tellNumbers_31 : decode cX7_tellNumbers 31 = .ok (.iload 4, 2) := by decide +kernel
theorem dX7_tellNumbers_33 : decode cX7_tellNumbers 33 = .ok (.laload, 1) := by decide +kernel
theorem dX7_tellNumbers_34 : decode cX7_tellNumbers 34 = .ok (.goto 10, 3) := by decide +kernel
theorem dX7_tellNumbers_37 : decode cX7_tellNumbers 37 = .ok (.aload_n 0, 1) := by decide +kernel
theorem dX7_tellNumbers_38 : decode cX7_tellNumbers 38 = .ok (.aload_n 1, 1) := by decide +kernel
theorem dX7_tellNumbers_39 : decode cX7_tellNumbers 39 = .ok (.iload 4, 2) := by decide +kernel
theorem dX7_tellNumbers_41 : decode cX7_tellNumbers 41 = .ok (.invokevirtual 36, 3) := by decide +kernel
theorem dX7_tellNumbers_44 : decode cX7_tellNumbers 44 = .ok (.lstore 5, 2) := by decide +kernel
theorem dX7_tellNumbers_46 : decode cX7_tellNumbers 46 = .ok (.lload 5, 2) := by decide +kernel
theorem dX7_tellNumbers_48 : decode cX7_tellNumbers 48 = .ok (.invokestatic 40, 3) := by decide +kernel
theorem dX7_tellNumbers_51 : decode cX7_tellNumbers 51 = .ok (.ldc2_w 44, 3) := by decide +kernel
theorem dX7_tellNumbers_54 : decode cX7_tellNumbers 54 = .ok (.lcmp, 1) := by decide +kernel
theorem dX7_tellNumbers_55 : decode cX7_tellNumbers 55 = .ok (.ifCond .le 6, 3) := by decide +kernel
theorem dX7_tellNumbers_58 : decode cX7_tellNumbers 58 = .ok (.iload 4, 2) := by decide +kernel
theorem dX7_tellNumbers_60 : decode cX7_tellNumbers 60 = .ok (.ireturn, 1) := by decide +kernel
theorem dX7_tellNumbers_61 : decode cX7_tellNumbers 61 = .ok (.aload_n 1, 1) := by decide +kernel
theorem dX7_tellNumbers_62 : decode cX7_tellNumbers 62 = .ok (.iload 4, 2) := by decide +kernel
theorem dX7_tellNumbers_64 : decode cX7_tellNumbers 64 = .ok (.lload 5, 2) := by decide +kernel
theorem dX7_tellNumbers_66 : decode cX7_tellNumbers 66 = .ok (.lastore, 1) := by decide +kernel
theorem dX7_tellNumbers_67 : decode cX7_tellNumbers 67 = .ok (.iinc 4 1, 3) := by decide +kernel
theorem dX7_tellNumbers_70 : decode cX7_tellNumbers 70 = .ok (.goto (-58), 3) := by decide +kernel
theorem dX7_tellNumbers_73 : decode cX7_tellNumbers 73 = .ok (.iload_n 3, 1) := by decide +kernel
theorem dX7_tellNumbers_74 : decode cX7_tellNumbers 74 = .ok (.iconst 1, 1) := by decide +kernel
theorem dX7_tellNumbers_75 : decode cX7_tellNumbers 75 = .ok (.iadd, 1) := by decide +kernel
theorem dX7_tellNumbers_76 : decode cX7_tellNumbers 76 = .ok (.ireturn, 1) := by decide +kernel
theorem dX7_carriedOn_0 : decode cX7_carriedOn 0 = .ok (.lconst 0, 1) := by decide +kernel
theorem dX7_carriedOn_1 : decode cX7_carriedOn 1 = .ok (.lstore_n 3, 1) := by decide +kernel
theorem dX7_carriedOn_2 : decode cX7_carriedOn 2 = .ok (.lconst 0, 1) := by decide +kernel
theorem dX7_carriedOn_3 : decode cX7_carriedOn 3 = .ok (.lstore 5, 2) := by decide +kernel
theorem dX7_carriedOn_5 : decode cX7_carriedOn 5 = .ok (.iconst 1, 1) := by decide +kernel
theorem dX7_carriedOn_6 : decode cX7_carriedOn 6 = .ok (.istore 7, 2) := by decide +kernel
theorem dX7_carriedOn_8 : decode cX7_carriedOn 8 = .ok (.iload 7, 2) := by decide +kernel
theorem dX7_carriedOn_10 : decode cX7_carriedOn 10 = .ok (.aload_n 0, 1) := by decide +kernel
theorem dX7_carriedOn_11 : decode cX7_carriedOn 11 = .ok (.getfield 9, 3) := by decide +kernel
theorem dX7_carriedOn_14 : decode cX7_carriedOn 14 = .ok (.if_icmp .gt 53, 3) := by decide +kernel
theorem dX7_carriedOn_17 : decode cX7_carriedOn 17 = .ok (.aload_n 1, 1) := by decide +kernel
theorem dX7_carriedOn_18 : decode cX7_carriedOn 18 = .ok (.iload_n 2, 1) := by decide +kernel
theorem dX7_carriedOn_19 : decode cX7_carriedOn 19 = .ok (.iload 7, 2) := by decide +kernel
theorem dX7_carriedOn_21 : decode cX7_carriedOn 21 = .ok (.isub, 1) := by decide +kernel
theorem dX7_carriedOn_22 : decode cX7_carriedOn 22 = .ok (.laload, 1) := by decide +kernel
theorem dX7_carriedOn_23 : decode cX7_carriedOn 23 = .ok (.lstore 8, 2) := by decide +kernel
theorem dX7_carriedOn_25 : decode cX7_carriedOn 25 = .ok (.lload_n 3, 1) := by decide +kernel
theorem dX7_carriedOn_26 : decode cX7_carriedOn 26 = .ok (.aload_n 0, 1) := by decide +kernel
theorem dX7_carriedOn_27 : decode cX7_carriedOn 27 = .ok (.getfield 15, 3) := by decide +kernel
theorem dX7_carriedOn_30 : decode cX7_carriedOn 30 = .ok (.iload 7, 2) := by decide +kernel
theorem dX7_carriedOn_32 : decode cX7_carriedOn 32 = .ok (.laload, 1) := by decide +kernel
theorem dX7_carriedOn_33 : decode cX7_carriedOn 33 = .ok (.lload 8, 2) := by decide +kernel
theorem dX7_carriedOn_35 : decode cX7_carriedOn 35 = .ok (.ldc2_w 46, 3) := by decide +kernel
theorem dX7_carriedOn_38 : decode cX7_carriedOn 38 = .ok (.ldiv, 1) := by decide +kernel
theorem dX7_carriedOn_39 : decode cX7_carriedOn 39 = .ok (.lmul, 1) := by decide +kernel
theorem dX7_carriedOn_40 : decode cX7_carriedOn 40 = .ok (.ladd, 1) := by decide +kernel
theorem dX7_carriedOn_41 : decode cX7_carriedOn 41 = .ok (.lstore_n 3, 1) := by decide +kernel
theorem dX7_carriedOn_42 : decode cX7_carriedOn 42 = .ok (.lload 5, 2) := by decide +kernel
theorem dX7_carriedOn_44 : decode cX7_carriedOn 44 = .ok (.aload_n 0, 1) := by decide +kernel
theorem dX7_carriedOn_45 : decode cX7_carriedOn 45 = .ok (.getfield 15, 3) := by decide +kernel
theorem dX7_carriedOn_48 : decode cX7_carriedOn 48 = .ok (.iload 7, 2) := by decide +kernel
theorem dX7_carriedOn_50 : decode cX7_carriedOn 50 = .ok (.laload, 1) := by decide +kernel
theorem dX7_carriedOn_51 : decode cX7_carriedOn 51 = .ok (.lload 8, 2) := by decide +kernel
theorem dX7_carriedOn_53 : decode cX7_carriedOn 53 = .ok (.ldc2_w 46, 3) := by decide +kernel
theorem dX7_carriedOn_56 : decode cX7_carriedOn 56 = .ok (.lrem, 1) := by decide +kernel
theorem dX7_carriedOn_57 : decode cX7_carriedOn 57 = .ok (.lmul, 1) := by decide +kernel
theorem dX7_carriedOn_58 : decode cX7_carriedOn 58 = .ok (.ladd, 1) := by decide +kernel
theorem dX7_carriedOn_59 : decode cX7_carriedOn 59 = .ok (.lstore 5, 2) := by decide +kernel
theorem dX7_carriedOn_61 : decode cX7_carriedOn 61 = .ok (.iinc 7 1, 3) := by decide +kernel
theorem dX7_carriedOn_64 : decode cX7_carriedOn 64 = .ok (.goto (-56), 3) := by decide +kernel
theorem dX7_carriedOn_67 : decode cX7_carriedOn 67 = .ok (.lload_n 3, 1) := by decide +kernel
theorem dX7_carriedOn_68 : decode cX7_carriedOn 68 = .ok (.lload 5, 2) := by decide +kernel
theorem dX7_carriedOn_70 : decode cX7_carriedOn 70 = .ok (.ldc2_w 46, 3) := by decide +kernel
theorem dX7_carriedOn_73 : decode cX7_carriedOn 73 = .ok (.ldiv, 1) := by decide +kernel
theorem dX7_carriedOn_74 : decode cX7_carriedOn 74 = .ok (.ladd, 1) := by decide +kernel
theorem dX7_carriedOn_75 : decode cX7_carriedOn 75 = .ok (.lstore_n 3, 1) := by decide +kernel
theorem dX7_carriedOn_76 : decode cX7_carriedOn 76 = .ok (.lload_n 3, 1) := by decide +kernel
theorem dX7_carriedOn_77 : decode cX7_carriedOn 77 = .ok (.invokestatic 40, 3) := by decide +kernel
theorem dX7_carriedOn_80 : decode cX7_carriedOn 80 = .ok (.ldc2_w 48, 3) := by decide +kernel
theorem dX7_carriedOn_83 : decode cX7_carriedOn 83 = .ok (.lcmp, 1) := by decide +kernel
theorem dX7_carriedOn_84 : decode cX7_carriedOn 84 = .ok (.ifCond .le 7, 3) := by decide +kernel
theorem dX7_carriedOn_87 : decode cX7_carriedOn 87 = .ok (.ldc2_w 50, 3) := by decide +kernel
theorem dX7_carriedOn_90 : decode cX7_carriedOn 90 = .ok (.lreturn, 1) := by decide +kernel
theorem dX7_carriedOn_91 : decode cX7_carriedOn 91 = .ok (.lload_n 3, 1) := by decide +kernel
theorem dX7_carriedOn_92 : decode cX7_carriedOn 92 = .ok (.ldc2_w 46, 3) := by decide +kernel
theorem dX7_carriedOn_95 : decode cX7_carriedOn 95 = .ok (.lmul, 1) := by decide +kernel
theorem dX7_carriedOn_96 : decode cX7_carriedOn 96 = .ok (.lload 5, 2) := by decide +kernel
theorem dX7_carriedOn_98 : decode cX7_carriedOn 98 = .ok (.ldc2_w 46, 3) := by decide +kernel
theorem dX7_carriedOn_101 : decode cX7_carriedOn 101 = .ok (.lrem, 1) := by decide +kernel
theorem dX7_carriedOn_102 : decode cX7_carriedOn 102 = .ok (.ladd, 1) := by decide +kernel
theorem dX7_carriedOn_103 : decode cX7_carriedOn 103 = .ok (.lreturn, 1) := by decide +kernel
theorem dX7_isRoot_0 : decode cX7_isRoot 0 = .ok (.iconst 1, 1) := by decide +kernel
theorem dX7_isRoot_1 : decode cX7_isRoot 1 = .ok (.istore_n 3, 1) := by decide +kernel
theorem dX7_isRoot_2 : decode cX7_isRoot 2 = .ok (.iconst 1, 1) := by decide +kernel
theorem dX7_isRoot_3 : decode cX7_isRoot 3 = .ok (.istore 4, 2) := by decide +kernel
theorem dX7_isRoot_5 : decode cX7_isRoot 5 = .ok (.iload 4, 2) := by decide +kernel
theorem dX7_isRoot_7 : decode cX7_isRoot 7 = .ok (.aload_n 0, 1) := by decide +kernel
theorem dX7_isRoot_8 : decode cX7_isRoot 8 = .ok (.getfield 9, 3) := by decide +kernel
theorem dX7_isRoot_11 : decode cX7_isRoot 11 = .ok (.if_icmp .gt 28, 3) := by decide +kernel
theorem dX7_isRoot_14 : decode cX7_isRoot 14 = .ok (.iload_n 3, 1) := by decide +kernel
theorem dX7_isRoot_15 : decode cX7_isRoot 15 = .ok (.iload_n 1, 1) := by decide +kernel
theorem dX7_isRoot_16 : decode cX7_isRoot 16 = .ok (.imul, 1) := by decide +kernel
theorem dX7_isRoot_17 : decode cX7_isRoot 17 = .ok (.i2l, 1) := by decide +kernel
theorem dX7_isRoot_18 : decode cX7_isRoot 18 = .ok (.aload_n 0, 1) := by decide +kernel
theorem dX7_isRoot_19 : decode cX7_isRoot 19 = .ok (.getfield 15, 3) := by decide +kernel
theorem dX7_isRoot_22 : decode cX7_isRoot 22 = .ok (.iload 4, 2) := by decide +kernel
theorem dX7_isRoot_24 : decode cX7_isRoot 24 = .ok (.laload, 1) := by decide +kernel
theorem dX7_isRoot_25 : decode cX7_isRoot 25 = .ok (.lsub, 1) := by decide +kernel
theorem dX7_isRoot_26 : decode cX7_isRoot 26 = .ok (.iload_n 2, 1) := by decide +kernel
theorem dX7_isRoot_27 : decode cX7_isRoot 27 = .ok (.i2l, 1) := by decide +kernel
theorem dX7_isRoot_28 : decode cX7_isRoot 28 = .ok (.invokestatic 52, 3) := by decide +kernel
theorem dX7_isRoot_31 : decode cX7_isRoot 31 = .ok (.l2i, 1) := by decide +kernel
theorem dX7_isRoot_32 : decode cX7_isRoot 32 = .ok (.istore_n 3, 1) := by decide +kernel
theorem dX7_isRoot_33 : decode cX7_isRoot 33 = .ok (.iinc 4 1, 3) := by decide +kernel
theorem dX7_isRoot_36 : decode cX7_isRoot 36 = .ok (.goto (-31), 3) := by decide +kernel
theorem dX7_isRoot_39 : decode cX7_isRoot 39 = .ok (.iload_n 3, 1) := by decide +kernel
theorem dX7_isRoot_40 : decode cX7_isRoot 40 = .ok (.ifCond .ne 7, 3) := by decide +kernel
theorem dX7_isRoot_43 : decode cX7_isRoot 43 = .ok (.iconst 1, 1) := by decide +kernel
theorem dX7_isRoot_44 : decode cX7_isRoot 44 = .ok (.goto 4, 3) := by decide +kernel
theorem dX7_isRoot_47 : decode cX7_isRoot 47 = .ok (.iconst 0, 1) := by decide +kernel
theorem dX7_isRoot_48 : decode cX7_isRoot 48 = .ok (.ireturn, 1) := by decide +kernel
theorem dX8_init_0 : decode cX8_init 0 = .ok (.aload_n 0, 1) := by decide +kernel
theorem dX8_init_1 : decode cX8_init 1 = .ok (.invokespecial 3, 3) := by decide +kernel
theorem dX8_init_4 : decode cX8_init 4 = .ok (.aload_n 0, 1) := by decide +kernel
theorem dX8_init_5 : decode cX8_init 5 = .ok (.bipush 100, 2) := by decide +kernel
theorem dX8_init_7 : decode cX8_init 7 = .ok (.newarray .int, 2) := by decide +kernel
theorem dX8_init_9 : decode cX8_init 9 = .ok (.putfield 9, 3) := by decide +kernel
theorem dX8_init_12 : decode cX8_init 12 = .ok (.aload_n 0, 1) := by decide +kernel
theorem dX8_init_13 : decode cX8_init 13 = .ok (.iconst 0, 1) := by decide +kernel
theorem dX8_init_14 : decode cX8_init 14 = .ok (.putfield 15, 3) := by decide +kernel
theorem dX8_init_17 : decode cX8_init 17 = .ok (.aload_n 0, 1) := by decide +kernel
theorem dX8_init_18 : decode cX8_init 18 = .ok (.new 19, 3) := by decide +kernel
theorem dX8_init_21 : decode cX8_init 21 = .ok (.dup, 1) := by decide +kernel
theorem dX8_init_22 : decode cX8_init 22 = .ok (.invokespecial 21, 3) := by decide +kernel
theorem dX8_init_25 : decode cX8_init 25 = .ok (.putfield 22, 3) := by decide +kernel
theorem dX8_init_28 : decode cX8_init 28 = .ok (.return_, 1) := by decide +kernel
theorem dX8_append_0 : decode cX8_append 0 = .ok (.aload_n 0, 1) := by decide +kernel
theorem dX8_append_1 : decode cX8_append 1 = .ok (.getfield 15, 3) := by decide +kernel
theorem dX8_append_4 : decode cX8_append 4 = .ok (.iload_n 1, 1) := by decide +kernel
theorem dX8_append_5 : decode cX8_append 5 = .ok (.iadd, 1) := by decide +kernel
theorem dX8_append_6 : decode cX8_append 6 = .ok (.bipush 100, 2) := by decide +kernel
theorem dX8_append_8 : decode cX8_append 8 = .ok (.if_icmp .le 5, 3) := by decide +kernel
theorem dX8_append_11 : decode cX8_append 11 = .ok (.iconst 0, 1) := by decide +kernel
theorem dX8_append_12 : decode cX8_append 12 = .ok (.ireturn, 1) := by decide +kernel
theorem dX8_append_13 : decode cX8_append 13 = .ok (.iload_n 1, 1) := by decide +kernel
theorem dX8_append_14 : decode cX8_append 14 = .ok (.iconst 1, 1) := by decide +kernel
theorem dX8_append_15 : decode cX8_append 15 = .ok (.isub, 1) := by decide +kernel
theorem dX8_append_16 : decode cX8_append 16 = .ok (.istore 4, 2) := by decide +kernel
theorem dX8_append_18 : decode cX8_append 18 = .ok (.iload 4, 2) := by decide +kernel
theorem dX8_append_20 : decode cX8_append 20 = .ok (.ifCond .lt 40, 3) := by decide +kernel
theorem dX8_append_23 : decode cX8_append 23 = .ok (.aload_n 0, 1) := by decide +kernel
theorem dX8_append_24 : decode cX8_append 24 = .ok (.getfield 9, 3) := by decide +kernel
theorem dX8_append_27 : decode cX8_append 27 = .ok (.aload_n 0, 1) := by decide +kernel
theorem dX8_append_28 : decode cX8_append 28 = .ok (.getfield 15, 3) := by decide +kernel
theorem dX8_append_31 : decode cX8_append 31 = .ok (.lload_n 2, 1) := by decide +kernel
theorem dX8_append_32 : decode cX8_append 32 = .ok (.bipush 8, 2) := by decide +kernel
theorem dX8_append_34 : decode cX8_append 34 = .ok (.iload 4, 2) := by decide +kernel
theorem dX8_append_36 : decode cX8_append 36 = .ok (.imul, 1) := by decide +kernel
theorem dX8_append_37 : decode cX8_append 37 = .ok (.lushr, 1) := by decide +kernel
theorem dX8_append_38 : decode cX8_append 38 = .ok (.ldc2_w 26, 3) := by decide +kernel
theorem dX8_append_41 : decode cX8_append 41 = .ok (.land, 1) := by decide +kernel
theorem dX8_append_42 : decode cX8_append 42 = .ok (.l2i, 1) := by decide +kernel
theorem dX8_append_43 : decode cX8_append 43 = .ok (.iastore, 1) := by decide +kernel
theorem dX8_append_44 : decode cX8_append 44 = .ok (.aload_n 0, 1) := by decide +kernel
theorem dX8_append_45 : decode cX8_append 45 = .ok (.dup, 1) := by decide +kernel
theorem dX8_append_46 : decode cX8_append 46 = .ok (.getfield 15, 3) := by decide +kernel
theorem dX8_append_49 : decode cX8_append 49 = .ok (.iconst 1, 1) := by decide +kernel
theorem dX8_append_50 : decode cX8_append 50 = .ok (.iadd, 1) := by decide +kernel
theorem dX8_append_51 : decode cX8_append 51 = .ok (.putfield 15, 3) := by decide +kernel
theorem dX8_append_54 : decode cX8_append 54 = .ok (.iinc 4 (-1), 3) := by decide +kernel
theorem dX8_append_57 : decode cX8_append 57 = .ok (.goto (-39), 3) := by decide +kernel
theorem dX8_append_60 : decode cX8_append 60 = .ok (.iconst 1, 1) := by decide +kernel
theorem dX8_append_61 : decode cX8_append 61 = .ok (.ireturn, 1) := by decide +kernel
theorem dX8_findFault_0 : decode cX8_findFault 0 = .ok (.aload_n 0, 1) := by decide +kernel
theorem dX8_findFault_1 : decode cX8_findFault 1 = .ok (.invokevirtual 28, 3) := by decide +kernel
theorem dX8_findFault_4 : decode cX8_findFault 4 = .ok (.istore_n 1, 1) := by decide +kernel
theorem dX8_findFault_5 : decode cX8_findFault 5 = .ok (.iload_n 1, 1) := by decide +kernel
theorem dX8_findFault_6 : decode cX8_findFault 6 = .ok (.bipush (-4), 2) := by decide +kernel
theorem dX8_findFault_8 : decode cX8_findFault 8 = .ok (.if_icmp .ne 16, 3) := by decide +kernel
theorem dX8_findFault_11 : decode cX8_findFault 11 = .ok (.aload_n 0, 1) := by decide +kernel
theorem dX8_findFault_12 : decode cX8_findFault 12 = .ok (.aload_n 0, 1) := by decide +kernel
theorem dX8_findFault_13 : decode cX8_findFault 13 = .ok (.getfield 32, 3) := by decide +kernel
theorem dX8_findFault_16 : decode cX8_findFault 16 = .ok (.iconst 1, 1) := by decide +kernel
theorem dX8_findFault_17 : decode cX8_findFault 17 = .ok (.iadd, 1) := by decide +kernel
theorem dX8_findFault_18 : decode cX8_findFault 18 = .ok (.invokevirtual 35, 3) := by decide +kernel
theorem dX8_findFault_21 : decode cX8_findFault 21 = .ok (.goto 4, 3) := by decide +kernel
theorem dX8_findFault_24 : decode cX8_findFault 24 = .ok (.iload_n 1, 1) := by decide +kernel
theorem dX8_findFault_25 : decode cX8_findFault 25 = .ok (.ireturn, 1) := by decide +kernel
theorem dX8_readLaw_0 : decode cX8_readLaw 0 = .ok (.iconst 0, 1) := by decide +kernel
theorem dX8_readLaw_1 : decode cX8_readLaw 1 = .ok (.istore_n 1, 1) := by decide +kernel
theorem dX8_readLaw_2 : decode cX8_readLaw 2 = .ok (.iconst 1, 1) := by decide +kernel
theorem dX8_readLaw_3 : decode cX8_readLaw 3 = .ok (.istore_n 2, 1) := by decide +kernel
theorem dX8_readLaw_4 : decode cX8_readLaw 4 = .ok (.iload_n 2, 1) := by decide +kernel
theorem dX8_readLaw_5 : decode cX8_readLaw 5 = .ok (.bipush 6, 2) := by decide +kernel
theorem dX8_readLaw_7 : decode cX8_readLaw 7 = .ok (.if_icmp .gt 108, 3) := by decide +kernel
theorem dX8_readLaw_10 : decode cX8_readLaw 10 = .ok (.aload_n 0, 1) := by decide +kernel
theorem dX8_readLaw_11 : decode cX8_readLaw 11 = .ok (.iload_n 1, 1) := by decide +kernel
theorem dX8_readLaw_12 : decode cX8_readLaw 12 = .ok (.ldc 39, 2) := by decide +kernel
theorem dX8_readLaw_14 : decode cX8_readLaw 14 = .ok (.invokevirtual 40, 3) := by decide +kernel
theorem dX8_readLaw_17 : decode cX8_readLaw 17 = .ok (.istore_n 3, 1) := by decide +kernel
theorem dX8_readLaw_18 : decode cX8_readLaw 18 = .ok (.iload_n 3, 1) := by decide +kernel
theorem dX8_readLaw_19 : decode cX8_readLaw 19 = .ok (.bipush (-4), 2) := by decide +kernel
theorem dX8_readLaw_21 : decode cX8_readLaw 21 = .ok (.if_icmp .eq 5, 3) := by decide +kernel
theorem dX8_readLaw_24 : decode cX8_readLaw 24 = .ok (.iload_n 3, 1) := by decide +kernel
theorem dX8_readLaw_25 : decode cX8_readLaw 25 = .ok (.ireturn, 1) := by decide +kernel
theorem dX8_readLaw_26 : decode cX8_readLaw 26 = .ok (.aload_n 0, 1) := by decide +kernel
theorem dX8_readLaw_27 : decode cX8_readLaw 27 = .ok (.getfield 22, 3) := by decide +kernel
theorem dX8_readLaw_30 : decode cX8_readLaw 30 = .ok (.getfield 44, 3) := by decide +kernel
theorem dX8_readLaw_33 : decode cX8_readLaw 33 = .ok (.iload_n 2, 1) := by decide +kernel
theorem dX8_readLaw_34 : decode cX8_readLaw 34 = .ok (.aload_n 0, 1) := by decide +kernel
theorem dX8_readLaw_35 : decode cX8_readLaw 35 = .ok (.getfield 48, 3) := by decide +kernel
theorem dX8_readLaw_38 : decode cX8_readLaw 38 = .ok (.i2l, 1) := by decide +kernel
theorem dX8_readLaw_39 : decode cX8_readLaw 39 = .ok (.lastore, 1) := by decide +kernel
theorem dX8_readLaw_40 : decode cX8_readLaw 40 = .ok (.aload_n 0, 1) := by decide +kernel
theorem dX8_readLaw_41 : decode cX8_readLaw 41 = .ok (.aload_n 0, 1) := by decide +kernel
theorem dX8_readLaw_42 : decode cX8_readLaw 42 = .ok (.getfield 32, 3) := by decide +kernel
theorem dX8_readLaw_45 : decode cX8_readLaw 45 = .ok (.bipush 58, 2) := by decide +kernel
theorem dX8_readLaw_47 : decode cX8_readLaw 47 = .ok (.invokevirtual 51, 3) := by decide +kernel
theorem dX8_readLaw_50 : decode cX8_readLaw 50 = .ok (.ifCond .eq 28, 3) := by decide +kernel
theorem dX8_readLaw_53 : decode cX8_readLaw 53 = .ok (.aload_n 0, 1) := by decide +kernel
theorem dX8_readLaw_54 : decode cX8_readLaw 54 = .ok (.getfield 22, 3) := by decide +kernel
theorem dX8_readLaw_57 : decode cX8_readLaw 57 = .ok (.iload_n 2, 1) := by decide +kernel
theorem dX8_readLaw_58 : decode cX8_readLaw 58 = .ok (.putfield 55, 3) := by decide +kernel
theorem dX8_readLaw_61 : decode cX8_readLaw 61 = .ok (.aload_n 0, 1) := by decide +kernel
theorem dX8_readLaw_62 : decode cX8_readLaw 62 = .ok (.getfield 48, 3) := by decide +kernel
theorem dX8_readLaw_65 : decode cX8_readLaw 65 = .ok (.ifCond .ne 10, 3) := by decide +kernel
theorem dX8_readLaw_68 : decode cX8_readLaw 68 = .ok (.aload_n 0, 1) := by decide +kernel
theorem dX8_readLaw_69 : decode cX8_readLaw 69 = .ok (.getfield 32, 3) := by decide +kernel
theorem dX8_readLaw_72 : decode cX8_readLaw 72 = .ok (.goto 5, 3) := by decide +kernel
theorem dX8_readLaw_75 : decode cX8_readLaw 75 = .ok (.bipush (-4), 2) := by decide +kernel
theorem dX8_readLaw_77 : decode cX8_readLaw 77 = .ok (.ireturn, 1) := by decide +kernel
theorem dX8_readLaw_78 : decode cX8_readLaw 78 = .ok (.aload_n 0, 1) := by decide +kernel
theorem dX8_readLaw_79 : decode cX8_readLaw 79 = .ok (.aload_n 0, 1) := by decide +kernel
theorem dX8_readLaw_80 : decode cX8_readLaw 80 = .ok (.getfield 32, 3) := by decide +kernel
theorem dX8_readLaw_83 : decode cX8_readLaw 83 = .ok (.bipush 44, 2) := by decide +kernel
theorem dX8_readLaw_85 : decode cX8_readLaw 85 = .ok (.invokevirtual 51, 3) := by decide +kernel
theorem dX8_readLaw_88 : decode cX8_readLaw 88 = .ok (.ifCond .eq 9, 3) := by decide +kernel
theorem dX8_readLaw_91 : decode cX8_readLaw 91 = .ok (.iload_n 2, 1) := by decide +kernel
theorem dX8_readLaw_92 : decode cX8_readLaw 92 = .ok (.bipush 6, 2) := by decide +kernel
theorem dX8_readLaw_94 : decode cX8_readLaw 94 = .ok (.if_icmp .ne 8, 3) := by decide +kernel
theorem dX8_readLaw_97 : decode cX8_readLaw 97 = .ok (.aload_n 0, 1) := by decide +kernel
theorem dX8_readLaw_98 : decode cX8_readLaw 98 = .ok (.getfield 32, 3) := by decide +kernel
theorem dX8_readLaw_101 : decode cX8_readLaw 101 = .ok (.ireturn, 1) := by decide +kernel
theorem dX8_readLaw_102 : decode cX8_readLaw 102 = .ok (.aload_n 0, 1) := by decide +kernel
theorem dX8_readLaw_103 : decode cX8_readLaw 103 = .ok (.getfield 32, 3) := by decide +kernel
theorem dX8_readLaw_106 : decode cX8_readLaw 106 = .ok (.iconst 1, 1) := by decide +kernel
theorem dX8_readLaw_107 : decode cX8_readLaw 107 = .ok (.iadd, 1) := by decide +kernel
theorem dX8_readLaw_108 : decode cX8_readLaw 108 = .ok (.istore_n 1, 1) := by decide +kernel
theorem dX8_readLaw_109 : decode cX8_readLaw 109 = .ok (.iinc 2 1, 3) := by decide +kernel
theorem dX8_readLaw_112 : decode cX8_readLaw 112 = .ok (.goto (-108), 3) := by decide +kernel
theorem dX8_readLaw_115 : decode cX8_readLaw 115 = .ok (.iload_n 1, 1) := by decide +kernel
theorem dX8_readLaw_116 : decode cX8_readLaw 116 = .ok (.ireturn, 1) := by decide +kernel
theorem dX8_readStarts_0 : decode cX8_readStarts 0 = .ok (.iload_n 1, 1) := by decide +kernel
theorem dX8_readStarts_1 : decode cX8_readStarts 1 = .ok (.istore_n 2, 1) := by decide +kernel
theorem dX8_readStarts_2 : decode cX8_readStarts 2 = .ok (.iconst 0, 1) := by decide +kernel
theorem dX8_readStarts_3 : decode cX8_readStarts 3 = .ok (.istore_n 3, 1) := by decide +kernel
theorem dX8_readStarts_4 : decode cX8_readStarts 4 = .ok (.iload_n 3, 1) := by decide +kernel
theorem dX8_readStarts_5 : decode cX8_readStarts 5 = .ok (.aload_n 0, 1) := by decide +kernel
theorem dX8_readStarts_6 : decode cX8_readStarts 6 = .ok (.getfield 22, 3) := by decide +kernel
theorem dX8_readStarts_9 : decode cX8_readStarts 9 = .ok (.getfield 55, 3) := by decide +kernel
theorem dX8_readStarts_12 : decode cX8_readStarts 12 = .ok (.if_icmp .ge 92, 3) := by decide +kernel
theorem dX8_readStarts_15 : decode cX8_readStarts 15 = .ok (.aload_n 0, 1) := by decide +kernel
theorem dX8_readStarts_16 : decode cX8_readStarts 16 = .ok (.iload_n 2, 1) := by decide +kernel
theorem dX8_readStarts_17 : decode cX8_readStarts 17 = .ok (.ldc 58, 2) := by decide +kernel
theorem dX8_readStarts_19 : decode cX8_readStarts 19 = .ok (.invokevirtual 40, 3) := by decide +kernel
theorem dX8_readStarts_22 : decode cX8_readStarts 22 = .ok (.istore 4, 2) := by decide +kernel
theorem dX8_readStarts_24 : decode cX8_readStarts 24 = .ok (.iload 4, 2) := by decide +kernel
theorem dX8_readStarts_26 : decode cX8_readStarts 26 = .ok (.bipush (-4), 2) := by decide +kernel
theorem dX8_readStarts_28 : decode cX8_readStarts 28 = .ok (.if_icmp .eq 6, 3) := by decide +kernel
theorem dX8_readStarts_31 : decode cX8_readStarts 31 = .ok (.iload 4, 2) := by decide +kernel
theorem dX8_readStarts_33 : decode cX8_readStarts 33 = .ok (.ireturn, 1) := by decide +kernel
theorem dX8_readStarts_34 : decode cX8_readStarts 34 = .ok (.aload_n 0, 1) := by decide +kernel
theorem dX8_readStarts_35 : decode cX8_readStarts 35 = .ok (.getfield 22, 3) := by decide +kernel
theorem dX8_readStarts_38 : decode cX8_readStarts 38 = .ok (.getfield 59, 3) := by decide +kernel
theorem dX8_readStarts_41 : decode cX8_readStarts 41 = .ok (.iload_n 3, 1) := by decide +kernel
theorem dX8_readStarts_42 : decode cX8_readStarts 42 = .ok (.aload_n 0, 1) := by decide +kernel
theorem dX8_readStarts_43 : decode cX8_readStarts 43 = .ok (.getfield 48, 3) := by decide +kernel
theorem dX8_readStarts_46 : decode cX8_readStarts 46 = .ok (.i2l, 1) := by decide +kernel
theorem dX8_readStarts_47 : decode cX8_readStarts 47 = .ok (.lastore, 1) := by decide +kernel
theorem dX8_readStarts_48 : decode cX8_readStarts 48 = .ok (.iload_n 3, 1) := by decide +kernel
theorem dX8_readStarts_49 : decode cX8_readStarts 49 = .ok (.aload_n 0, 1) := by decide +kernel
theorem dX8_readStarts_50 : decode cX8_readStarts 50 = .ok (.getfield 22, 3) := by decide +kernel
theorem dX8_readStarts_53 : decode cX8_readStarts 53 = .ok (.getfield 55, 3) := by decide +kernel
theorem dX8_readStarts_56 : decode cX8_readStarts 56 = .ok (.iconst 1, 1) := by decide +kernel
theorem dX8_readStarts_57 : decode cX8_readStarts 57 = .ok (.isub, 1) := by decide +kernel
theorem dX8_readStarts_58 : decode cX8_readStarts 58 = .ok (.if_icmp .ne 7, 3) := by decide +kernel
theorem dX8_readStarts_61 : decode cX8_readStarts 61 = .ok (.iconst 1, 1) := by decide +kernel
theorem dX8_readStarts_62 : decode cX8_readStarts 62 = .ok (.goto 4, 3) := by decide +kernel
theorem dX8_readStarts_65 : decode cX8_readStarts 65 = .ok (.iconst 0, 1) := by decide +kernel
theorem dX8_readStarts_66 : decode cX8_readStarts 66 = .ok (.istore 5, 2) := by decide +kernel
theorem dX8_readStarts_68 : decode cX8_readStarts 68 = .ok (.iload 5, 2) := by decide +kernel
theorem dX8_readStarts_70 : decode cX8_readStarts 70 = .ok (.ifCond .ne 21, 3) := by decide +kernel
theorem dX8_readStarts_73 : decode cX8_readStarts 73 = .ok (.aload_n 0, 1) := by decide +kernel
theorem dX8_readStarts_74 : decode cX8_readStarts 74 = .ok (.aload_n 0, 1) := by decide +kernel
theorem dX8_readStarts_75 : decode cX8_readStarts 75 = .ok (.getfield 32, 3) := by decide +kernel
theorem dX8_readStarts_78 : decode cX8_readStarts 78 = .ok (.bipush 44, 2) := by decide +kernel
theorem dX8_readStarts_80 : decode cX8_readStarts 80 = .ok (.invokevirtual 51, 3) := by decide +kernel
theorem dX8_readStarts_83 : decode cX8_readStarts 83 = .ok (.ifCond .ne 8, 3) := by decide +kernel
theorem dX8_readStarts_86 : decode cX8_readStarts 86 = .ok (.aload_n 0, 1) := by decide +kernel
theorem dX8_readStarts_87 : decode cX8_readStarts 87 = .ok (.getfield 32, 3) := by decide +kernel
theorem dX8_readStarts_90 : decode cX8_readStarts 90 = .ok (.ireturn, 1) := by decide +kernel
theorem dX8_readStarts_91 : decode cX8_readStarts 91 = .ok (.aload_n 0, 1) := by decide +kernel
theorem dX8_readStarts_92 : decode cX8_readStarts 92 = .ok (.getfield 32, 3) := by decide +kernel
theorem dX8_readStarts_95 : decode cX8_readStarts 95 = .ok (.iconst 1, 1) := by decide +kernel
theorem dX8_readStarts_96 : decode cX8_readStarts 96 = .ok (.iadd, 1) := by decide +kernel
theorem dX8_readStarts_97 : decode cX8_readStarts 97 = .ok (.istore_n 2, 1) := by decide +kernel
theorem dX8_readStarts_98 : decode cX8_readStarts 98 = .ok (.iinc 3 1, 3) := by decide +kernel
theorem dX8_readStarts_101 : decode cX8_readStarts 101 = .ok (.goto (-97), 3) := by decide +kernel
theorem dX8_readStarts_104 : decode cX8_readStarts 104 = .ok (.aload_n 0, 1) := by decide +kernel
theorem dX8_readStarts_105 : decode cX8_readStarts 105 = .ok (.getfield 32, 3) := by decide +kernel
theorem dX8_readStarts_108 : decode cX8_readStarts 108 = .ok (.aload_n 0, 1) := by decide +kernel
theorem dX8_readStarts_109 : decode cX8_readStarts 109 = .ok (.getfield 15, 3) := by decide +kernel
theorem dX8_readStarts_112 : decode cX8_readStarts 112 = .ok (.if_icmp .ge 10, 3) := by decide +kernel
theorem dX8_readStarts_115 : decode cX8_readStarts 115 = .ok (.aload_n 0, 1) := by decide +kernel
theorem dX8_readStarts_116 : decode cX8_readStarts 116 = .ok (.getfield 32, 3) := by decide +kernel
theorem dX8_readStarts_119 : decode cX8_readStarts 119 = .ok (.goto 5, 3) := by decide +kernel
theorem dX8_readStarts_122 : decode cX8_readStarts 122 = .ok (.bipush (-4), 2) := by decide +kernel
theorem dX8_readStarts_124 : decode cX8_readStarts 124 = .ok (.ireturn, 1) := by decide +kernel
theorem dX8_readNumber_0 : decode cX8_readNumber 0 = .ok (.aload_n 0, 1) := by decide +kernel
theorem dX8_readNumber_1 : decode cX8_readNumber 1 = .ok (.iload_n 1, 1) := by decide +kernel
theorem dX8_readNumber_2 : decode cX8_readNumber 2 = .ok (.bipush 45, 2) := by decide +kernel
theorem dX8_readNumber_4 : decode cX8_readNumber 4 = .ok (.invokevirtual 51, 3) := by decide +kernel
theorem dX8_readNumber_7 : decode cX8_readNumber 7 = .ok (.istore_n 3, 1) := by decide +kernel
theorem dX8_readNumber_8 : decode cX8_readNumber 8 = .ok (.iload_n 3, 1) := by decide +kernel
theorem dX8_readNumber_9 : decode cX8_readNumber 9 = .ok (.ifCond .eq 9, 3) := by decide +kernel
theorem dX8_readNumber_12 : decode cX8_readNumber 12 = .ok (.iload_n 1, 1) := by decide +kernel
theorem dX8_readNumber_13 : decode cX8_readNumber 13 = .ok (.iconst 1, 1) := by decide +kernel
theorem dX8_readNumber_14 : decode cX8_readNumber 14 = .ok (.iadd, 1) := by decide +kernel
theorem dX8_readNumber_15 : decode cX8_readNumber 15 = .ok (.goto 4, 3) := by decide +kernel
theorem dX8_readNumber_18 : decode cX8_readNumber 18 = .ok (.iload_n 1, 1) := by decide +kernel
theorem dX8_readNumber_19 : decode cX8_readNumber 19 = .ok (.istore 4, 2) := by decide +kernel
theorem dX8_readNumber_21 : decode cX8_readNumber 21 = .ok (.aload_n 0, 1) := by decide +kernel
theorem dX8_readNumber_22 : decode cX8_readNumber 22 = .ok (.iconst 0, 1) := by decide +kernel
theorem dX8_readNumber_23 : decode cX8_readNumber 23 = .ok (.putfield 48, 3) := by decide +kernel
theorem dX8_readNumber_26 : decode cX8_readNumber 26 = .ok (.aload_n 0, 1) := by decide +kernel
theorem dX8_readNumber_27 : decode cX8_readNumber 27 = .ok (.iload 4, 2) := by decide +kernel
theorem dX8_readNumber_29 : decode cX8_readNumber 29 = .ok (.bipush 48, 2) := by decide +kernel
theorem dX8_readNumber_31 : decode cX8_readNumber 31 = .ok (.invokevirtual 51, 3) := by decide +kernel
theorem dX8_readNumber_34 : decode cX8_readNumber 34 = .ok (.ifCond .eq 18, 3) := by decide +kernel
theorem dX8_readNumber_37 : decode cX8_readNumber 37 = .ok (.iload_n 3, 1) := by decide +kernel
theorem dX8_readNumber_38 : decode cX8_readNumber 38 = .ok (.ifCond .ne 14, 3) := by decide +kernel
theorem dX8_readNumber_41 : decode cX8_readNumber 41 = .ok (.aload_n 0, 1) := by decide +kernel
theorem dX8_readNumber_42 : decode cX8_readNumber 42 = .ok (.iload 4, 2) := by decide +kernel
theorem dX8_readNumber_44 : decode cX8_readNumber 44 = .ok (.iconst 1, 1) := by decide +kernel
theorem dX8_readNumber_45 : decode cX8_readNumber 45 = .ok (.iadd, 1) := by decide +kernel
theorem dX8_readNumber_46 : decode cX8_readNumber 46 = .ok (.putfield 32, 3) := by decide +kernel
theorem dX8_readNumber_49 : decode cX8_readNumber 49 = .ok (.bipush (-4), 2) := by decide +kernel
theorem dX8_readNumber_51 : decode cX8_readNumber 51 = .ok (.ireturn, 1) := by decide +kernel
theorem dX8_readNumber_52 : decode cX8_readNumber 52 = .ok (.aload_n 0, 1) := by decide +kernel
theorem dX8_readNumber_53 : decode cX8_readNumber 53 = .ok (.iload 4, 2) := by decide +kernel
theorem dX8_readNumber_55 : decode cX8_readNumber 55 = .ok (.invokevirtual 62, 3) := by decide +kernel
theorem dX8_readNumber_58 : decode cX8_readNumber 58 = .ok (.ifCond .eq 14, 3) := by decide +kernel
theorem dX8_readNumber_61 : decode cX8_readNumber 61 = .ok (.aload_n 0, 1) := by decide +kernel
theorem dX8_readNumber_62 : decode cX8_readNumber 62 = .ok (.iload 4, 2) := by decide +kernel
theorem dX8_readNumber_64 : decode cX8_readNumber 64 = .ok (.bipush 48, 2) := by decide +kernel
theorem dX8_readNumber_66 : decode cX8_readNumber 66 = .ok (.invokevirtual 51, 3) := by decide +kernel
theorem dX8_readNumber_69 : decode cX8_readNumber 69 = .ok (.ifCond .eq 6, 3) := by decide +kernel
theorem dX8_readNumber_72 : decode cX8_readNumber 72 = .ok (.iload 4, 2) := by decide +kernel
theorem dX8_readNumber_74 : decode cX8_readNumber 74 = .ok (.ireturn, 1) := by decide +kernel
theorem dX8_readNumber_75 : decode cX8_readNumber 75 = .ok (.iload 4, 2) := by decide +kernel
theorem dX8_readNumber_77 : decode cX8_readNumber 77 = .ok (.aload_n 0, 1) := by decide +kernel
theorem dX8_readNumber_78 : decode cX8_readNumber 78 = .ok (.getfield 15, 3) := by decide +kernel
theorem dX8_readNumber_81 : decode cX8_readNumber 81 = .ok (.if_icmp .ge 50, 3) := by decide +kernel
theorem dX8_readNumber_84 : decode cX8_readNumber 84 = .ok (.aload_n 0, 1) := by decide +kernel
theorem dX8_readNumber_85 : decode cX8_readNumber 85 = .ok (.iload 4, 2) := by decide +kernel
theorem dX8_readNumber_87 : decode cX8_readNumber 87 = .ok (.invokevirtual 62, 3) := by decide +kernel
theorem dX8_readNumber_90 : decode cX8_readNumber 90 = .ok (.ifCond .eq 41, 3) := by decide +kernel
theorem dX8_readNumber_93 : decode cX8_readNumber 93 = .ok (.aload_n 0, 1) := by decide +kernel
theorem dX8_readNumber_94 : decode cX8_readNumber 94 = .ok (.bipush 10, 2) := by decide +kernel
theorem dX8_readNumber_96 : decode cX8_readNumber 96 = .ok (.aload_n 0, 1) := by decide +kernel
theorem dX8_readNumber_97 : decode cX8_readNumber 97 = .ok (.getfield 48, 3) := by decide +kernel
theorem dX8_readNumber_100 : decode cX8_readNumber 100 = .ok (.imul, 1) := by decide +kernel
theorem dX8_readNumber_101 : decode cX8_readNumber 101 = .ok (.aload_n 0, 1) := by decide +kernel
theorem dX8_readNumber_102 : decode cX8_readNumber 102 = .ok (.getfield 9, 3) := by decide +kernel
theorem dX8_readNumber_105 : decode cX8_readNumber 105 = .ok (.iload 4, 2) := by decide +kernel
theorem dX8_readNumber_107 : decode cX8_readNumber 107 = .ok (.iaload, 1) := by decide +kernel
theorem dX8_readNumber_108 : decode cX8_readNumber 108 = .ok (.iadd, 1) := by decide +kernel
theorem dX8_readNumber_109 : decode cX8_readNumber 109 = .ok (.bipush 48, 2) := by decide +kernel
theorem dX8_readNumber_111 : decode cX8_readNumber 111 = .ok (.isub, 1) := by decide +kernel
theorem dX8_readNumber_112 : decode cX8_readNumber 112 = .ok (.putfield 48, 3) := by decide +kernel
theorem dX8_readNumber_115 : decode cX8_readNumber 115 = .ok (.aload_n 0, 1) := by decide +kernel
theorem dX8_readNumber_116 : decode cX8_readNumber 116 = .ok (.getfield 48, 3) := by decide +kernel
theorem dX8_readNumber_119 : decode cX8_readNumber 119 = .ok (.iload_n 2, 1) := by decide +kernel
theorem dX8_readNumber_120 : decode cX8_readNumber 120 = .ok (.if_icmp .le 5, 3) := by decide +kernel
theorem dX8_readNumber_123 : decode cX8_readNumber 123 = .ok (.iload_n 1, 1) := by decide +kernel
theorem dX8_readNumber_124 : decode cX8_readNumber 124 = .ok (.ireturn, 1) := by decide +kernel
theorem dX8_readNumber_125 : decode cX8_readNumber 125 = .ok (.iinc 4 1, 3) := by decide +kernel
theorem dX8_readNumber_128 : decode cX8_readNumber 128 = .ok (.goto (-53), 3) := by decide +kernel
theorem dX8_readNumber_131 : decode cX8_readNumber 131 = .ok (.aload_n 0, 1) := by decide +kernel
theorem dX8_readNumber_132 : decode cX8_readNumber 132 = .ok (.iload_n 3, 1) := by decide +kernel
theorem dX8_readNumber_133 : decode cX8_readNumber 133 = .ok (.ifCond .eq 11, 3) := by decide +kernel
theorem dX8_readNumber_136 : decode cX8_readNumber 136 = .ok (.aload_n 0, 1) := by decide +kernel
theorem dX8_readNumber_137 : decode cX8_readNumber 137 = .ok (.getfield 48, 3) := by decide +kernel
theorem dX8_readNumber_140 : decode cX8_readNumber 140 = .ok (.ineg, 1) := by decide +kernel
theorem dX8_readNumber_141 : decode cX8_readNumber 141 = .ok (.goto 7, 3) := by decide +kernel
theorem dX8_readNumber_144 : decode cX8_readNumber 144 = .ok (.aload_n 0, 1) := by decide +kernel
theorem dX8_readNumber_145 : decode cX8_readNumber 145 = .ok (.getfield 48, 3) := by decide +kernel
theorem dX8_readNumber_148 : decode cX8_readNumber 148 = .ok (.putfield 48, 3) := by decide +kernel
theorem dX8_readNumber_151 : decode cX8_readNumber 151 = .ok (.aload_n 0, 1) := by decide +kernel
theorem dX8_readNumber_152 : decode cX8_readNumber 152 = .ok (.iload 4, 2) := by decide +kernel
theorem dX8_readNumber_154 : decode cX8_readNumber 154 = .ok (.putfield 32, 3) := by decide +kernel
theorem dX8_readNumber_157 : decode cX8_readNumber 157 = .ok (.bipush (-4), 2) := by decide +kernel
theorem dX8_readNumber_159 : decode cX8_readNumber 159 = .ok (.ireturn, 1) := by decide +kernel
theorem dX8_isFigure_0 : decode cX8_isFigure 0 = .ok (.iload_n 1, 1) := by decide +kernel
theorem dX8_isFigure_1 : decode cX8_isFigure 1 = .ok (.aload_n 0, 1) := by decide +kernel
theorem dX8_isFigure_2 : decode cX8_isFigure 2 = .ok (.getfield 15, 3) := by decide +kernel
theorem dX8_isFigure_5 : decode cX8_isFigure 5 = .ok (.if_icmp .ge 29, 3) := by decide +kernel
theorem dX8_isFigure_8 : decode cX8_isFigure 8 = .ok (.aload_n 0, 1) := by decide +kernel
theorem dX8_isFigure_9 : decode cX8_isFigure 9 = .ok (.getfield 9, 3) := by decide +kernel
theorem dX8_isFigure_12 : decode cX8_isFigure 12 = .ok (.iload_n 1, 1) := by decide +kernel
theorem dX8_isFigure_13 : decode cX8_isFigure 13 = .ok (.iaload, 1) := by decide +kernel
theorem dX8_isFigure_14 : decode cX8_isFigure 14 = .ok (.bipush 48, 2) := by decide +kernel
theorem dX8_isFigure_16 : decode cX8_isFigure 16 = .ok (.if_icmp .lt 18, 3) := by decide +kernel
theorem dX8_isFigure_19 : decode cX8_isFigure 19 = .ok (.aload_n 0, 1) := by decide +kernel
theorem dX8_isFigure_20 : decode cX8_isFigure 20 = .ok (.getfield 9, 3) := by decide +kernel
theorem dX8_isFigure_23 : decode cX8_isFigure 23 = .ok (.iload_n 1, 1) := by decide +kernel
theorem dX8_isFigure_24 : decode cX8_isFigure 24 = .ok (.iaload, 1) := by decide +kernel
theorem dX8_isFigure_25 : decode cX8_isFigure 25 = .ok (.bipush 57, 2) := by decide +kernel
theorem dX8_isFigure_27 : decode cX8_isFigure 27 = .ok (.if_icmp .gt 7, 3) := by decide +kernel
theorem dX8_isFigure_30 : decode cX8_isFigure 30 = .ok (.iconst 1, 1) := by decide +kernel
theorem dX8_isFigure_31 : decode cX8_isFigure 31 = .ok (.goto 4, 3) := by decide +kernel
theorem dX8_isFigure_34 : decode cX8_isFigure 34 = .ok (.iconst 0, 1) := by decide +kernel
theorem dX8_isFigure_35 : decode cX8_isFigure 35 = .ok (.ireturn, 1) := by decide +kernel
theorem dX8_isByte_0 : decode cX8_isByte 0 = .ok (.iload_n 1, 1) := by decide +kernel
theorem dX8_isByte_1 : decode cX8_isByte 1 = .ok (.aload_n 0, 1) := by decide +kernel
theorem dX8_isByte_2 : decode cX8_isByte 2 = .ok (.getfield 15, 3) := by decide +kernel
theorem dX8_isByte_5 : decode cX8_isByte 5 = .ok (.if_icmp .ge 17, 3) := by decide +kernel
theorem dX8_isByte_8 : decode cX8_isByte 8 = .ok (.aload_n 0, 1) := by decide +kernel
theorem dX8_isByte_9 : decode cX8_isByte 9 = .ok (.getfield 9, 3) := by decide +kernel
theorem dX8_isByte_12 : decode cX8_isByte 12 = .ok (.iload_n 1, 1) := by decide +kernel
theorem dX8_isByte_13 : decode cX8_isByte 13 = .ok (.iaload, 1) := by decide +kernel
theorem dX8_isByte_14 : decode cX8_isByte 14 = .ok (.iload_n 2, 1) := by decide +kernel
theorem dX8_isByte_15 : decode cX8_isByte 15 = .ok (.if_icmp .ne 7, 3) := by decide +kernel
theorem dX8_isByte_18 : decode cX8_isByte 18 = .ok (.iconst 1, 1) := by decide +kernel
theorem dX8_isByte_19 : decode cX8_isByte 19 = .ok (.goto 4, 3) := by decide +kernel
theorem dX8_isByte_22 : decode cX8_isByte 22 = .ok (.iconst 0, 1) := by decide +kernel
theorem dX8_isByte_23 : decode cX8_isByte 23 = .ok (.ireturn, 1) := by decide +kernel
theorem dX9_init_0 : decode cX9_init 0 = .ok (.aload_n 0, 1) := by decide +kernel
theorem dX9_init_1 : decode cX9_init 1 = .ok (.invokespecial 3, 3) := by decide +kernel
theorem dX9_init_4 : decode cX9_init 4 = .ok (.aload_n 0, 1) := by decide +kernel
theorem dX9_init_5 : decode cX9_init 5 = .ok (.bipush 7, 2) := by decide +kernel
theorem dX9_init_7 : decode cX9_init 7 = .ok (.newarray .int, 2) := by decide +kernel
theorem dX9_init_9 : decode cX9_init 9 = .ok (.putfield 9, 3) := by decide +kernel
theorem dX9_init_12 : decode cX9_init 12 = .ok (.aload_n 0, 1) := by decide +kernel
theorem dX9_init_13 : decode cX9_init 13 = .ok (.bipush 6, 2) := by decide +kernel
theorem dX9_init_15 : decode cX9_init 15 = .ok (.newarray .int, 2) := by decide +kernel
theorem dX9_init_17 : decode cX9_init 17 = .ok (.putfield 15, 3) := by decide +kernel
theorem dX9_init_20 : decode cX9_init 20 = .ok (.aload_n 0, 1) := by decide +kernel
theorem dX9_init_21 : decode cX9_init 21 = .ok (.iconst 1, 1) := by decide +kernel
theorem dX9_init_22 : decode cX9_init 22 = .ok (.putfield 18, 3) := by decide +kernel
theorem dX9_init_25 : decode cX9_init 25 = .ok (.aload_n 0, 1) := by decide +kernel
theorem dX9_init_26 : decode cX9_init 26 = .ok (.iconst 2, 1) := by decide +kernel
theorem dX9_init_27 : decode cX9_init 27 = .ok (.putfield 22, 3) := by decide +kernel
theorem dX9_init_30 : decode cX9_init 30 = .ok (.aload_n 0, 1) := by decide +kernel
theorem dX9_init_31 : decode cX9_init 31 = .ok (.lconst 1, 1) := by decide +kernel
theorem dX9_init_32 : decode cX9_init 32 = .ok (.putfield 25, 3) := by decide +kernel
theorem dX9_init_35 : decode cX9_init 35 = .ok (.aload_n 0, 1) := by decide +kernel
theorem dX9_init_36 : decode cX9_init 36 = .ok (.lconst 0, 1) := by decide +kernel
theorem dX9_init_37 : decode cX9_init 37 = .ok (.putfield 29, 3) := by decide +kernel
theorem dX9_init_40 : decode cX9_init 40 = .ok (.return_, 1) := by decide +kernel
theorem dX9_begin_0 : decode cX9_begin 0 = .ok (.aload_n 0, 1) := by decide +kernel
theorem dX9_begin_1 : decode cX9_begin 1 = .ok (.aload_n 1, 1) := by decide +kernel
theorem dX9_begin_2 : decode cX9_begin 2 = .ok (.getfield 32, 3) := by decide +kernel
theorem dX9_begin_5 : decode cX9_begin 5 = .ok (.putfield 18, 3) := by decide +kernel
theorem dX9_begin_8 : decode cX9_begin 8 = .ok (.aload_n 0, 1) := by decide +kernel
theorem dX9_begin_9 : decode cX9_begin 9 = .ok (.iload_n 2, 1) := by decide +kernel
theorem dX9_begin_10 : decode cX9_begin 10 = .ok (.putfield 22, 3) := by decide +kernel
theorem dX9_begin_13 : decode cX9_begin 13 = .ok (.aload_n 0, 1) := by decide +kernel
theorem dX9_begin_14 : decode cX9_begin 14 = .ok (.lconst 1, 1) := by decide +kernel
theorem dX9_begin_15 : decode cX9_begin 15 = .ok (.putfield 25, 3) := by decide +kernel
theorem dX9_begin_18 : decode cX9_begin 18 = .ok (.aload_n 0, 1) := by decide +kernel
theorem dX9_begin_19 : decode cX9_begin 19 = .ok (.lconst 0, 1) := by decide +kernel
theorem dX9_begin_20 : decode cX9_begin 20 = .ok (.putfield 29, 3) := by decide +kernel
theorem dX9_begin_23 : decode cX9_begin 23 = .ok (.iconst 0, 1) := by decide +kernel
theorem dX9_begin_24 : decode cX9_begin 24 = .ok (.istore_n 3, 1) := by decide +kernel
theorem dX9_begin_25 : decode cX9_begin 25 = .ok (.iload_n 3, 1) := by decide +kernel
theorem dX9_begin_26 : decode cX9_begin 26 = .ok (.aload_n 0, 1) := by decide +kernel
theorem dX9_begin_27 : decode cX9_begin 27 = .ok (.getfield 18, 3) := by decide +kernel
theorem dX9_begin_30 : decode cX9_begin 30 = .ok (.if_icmp .ge 99, 3) := by decide +kernel
theorem dX9_begin_33 : decode cX9_begin 33 = .ok (.aload_n 0, 1) := by decide +kernel
theorem dX9_begin_34 : decode cX9_begin 34 = .ok (.getfield 9, 3) := by decide +kernel
theorem dX9_begin_37 : decode cX9_begin 37 = .ok (.iload_n 3, 1) := by decide +kernel
theorem dX9_begin_38 : decode cX9_begin 38 = .ok (.iconst 1, 1) := by decide +kernel
theorem dX9_begin_39 : decode cX9_begin 39 = .ok (.iadd, 1) := by decide +kernel
theorem dX9_begin_40 : decode cX9_begin 40 = .ok (.aload_n 1, 1) := by decide +kernel
theorem dX9_begin_41 : decode cX9_begin 41 = .ok (.getfield 35, 3) := by decide +kernel
theorem dX9_begin_44 : decode cX9_begin 44 = .ok (.iload_n 3, 1) := by decide +kernel
theorem dX9_begin_45 : decode cX9_begin 45 = .ok (.iconst 1, 1) := by decide +kernel
theorem dX9_begin_46 : decode cX9_begin 46 = .ok (.iadd, 1) := by decide +kernel
theorem dX9_begin_47 : decode cX9_begin 47 = .ok (.laload, 1) := by decide +kernel
theorem dX9_begin_48 : decode cX9_begin 48 = .ok (.aload_n 0, 1) := by decide +kernel
theorem dX9_begin_49 : decode cX9_begin 49 = .ok (.getfield 22, 3) := by decide +kernel
theorem dX9_begin_52 : decode cX9_begin 52 = .ok (.i2l, 1) := by decide +kernel
theorem dX9_begin_53 : decode cX9_begin 53 = .ok (.invokestatic 38, 3) := by decide +kernel
theorem dX9_begin_56 : decode cX9_begin 56 = .ok (.l2i, 1) := by decide +kernel
theorem dX9_begin_57 : decode cX9_begin 57 = .ok (.iastore, 1) := by decide +kernel
theorem dX9_begin_58 : decode cX9_begin 58 = .ok (.aload_n 0, 1) := by decide +kernel
theorem dX9_begin_59 : decode cX9_begin 59 = .ok (.getfield 15, 3) := by decide +kernel
theorem dX9_begin_62 : decode cX9_begin 62 = .ok (.iload_n 3, 1) := by decide +kernel
theorem dX9_begin_63 : decode cX9_begin 63 = .ok (.aload_n 1, 1) := by decide +kernel
theorem dX9_begin_64 : decode cX9_begin 64 = .ok (.getfield 44, 3) := by decide +kernel
theorem dX9_begin_67 : decode cX9_begin 67 = .ok (.iload_n 3, 1) := by decide +kernel
theorem dX9_begin_68 : decode cX9_begin 68 = .ok (.laload, 1) := by decide +kernel
theorem dX9_begin_69 : decode cX9_begin 69 = .ok (.aload_n 0, 1) := by decide +kernel
theorem dX9_begin_70 : decode cX9_begin 70 = .ok (.getfield 22, 3) := by decide +kernel
theorem dX9_begin_73 : decode cX9_begin 73 = .ok (.i2l, 1) := by decide +kernel
theorem dX9_begin_74 : decode cX9_begin 74 = .ok (.invokestatic 38, 3) := by decide +kernel
theorem dX9_begin_77 : decode cX9_begin 77 = .ok (.l2i, 1) := by decide +kernel
theorem dX9_begin_78 : decode cX9_begin 78 = .ok (.iastore, 1) := by decide +kernel
theorem dX9_begin_79 : decode cX9_begin 79 = .ok (.aload_n 0, 1) := by decide +kernel
theorem dX9_begin_80 : decode cX9_begin 80 = .ok (.aload_n 0, 1) := by decide +kernel
theorem dX9_begin_81 : decode cX9_begin 81 = .ok (.getfield 29, 3) := by decide +kernel
theorem dX9_begin_84 : decode cX9_begin 84 = .ok (.aload_n 0, 1) := by decide +kernel
theorem dX9_begin_85 : decode cX9_begin 85 = .ok (.getfield 22, 3) := by decide +kernel
theorem dX9_begin_88 : decode cX9_begin 88 = .ok (.i2l, 1) := by decide +kernel
theorem dX9_begin_89 : decode cX9_begin 89 = .ok (.lmul, 1) := by decide +kernel
theorem dX9_begin_90 : decode cX9_begin 90 = .ok (.aload_n 0, 1) := by decide +kernel
theorem dX9_begin_91 : decode cX9_begin 91 = .ok (.getfield 15, 3) := by decide +kernel
theorem dX9_begin_94 : decode cX9_begin 94 = .ok (.iload_n 3, 1) := by decide +kernel
theorem dX9_begin_95 : decode cX9_begin 95 = .ok (.iaload, 1) := by decide +kernel
theorem dX9_begin_96 : decode cX9_begin 96 = .ok (.i2l, 1) := by decide +kernel
theorem dX9_begin_97 : decode cX9_begin 97 = .ok (.ladd, 1) := by decide +kernel
theorem dX9_begin_98 : decode cX9_begin 98 = .ok (.putfield 29, 3) := by decide +kernel
theorem dX9_begin_101 : decode cX9_begin 101 = .ok (.aload_n 0, 1) := by decide +kernel
theorem dX9_begin_102 : decode cX9_begin 102 = .ok (.iload_n 3, 1) := by decide +kernel
theorem dX9_begin_103 : decode cX9_begin 103 = .ok (.ifCond .ne 7, 3) := by decide +kernel
theorem dX9_begin_106 : decode cX9_begin 106 = .ok (.lconst 1, 1) := by decide +kernel
theorem dX9_begin_107 : decode cX9_begin 107 = .ok (.goto 13, 3) := by decide +kernel
theorem dX9_begin_110 : decode cX9_begin 110 = .ok (.aload_n 0, 1) := by decide +kernel
theorem dX9_begin_111 : decode cX9_begin 111 = .ok (.getfield 25, 3) := by decide +kernel
theorem dX9_begin_114 : decode cX9_begin 114 = .ok (.aload_n 0, 1) := by decide +kernel
theorem dX9_begin_115 : decode cX9_begin 115 = .ok (.getfield 22, 3) := by decide +kernel
theorem dX9_begin_118 : decode cX9_begin 118 = .ok (.i2l, 1) := by decide +kernel
theorem dX9_begin_119 : decode cX9_begin 119 = .ok (.lmul, 1) := by decide +kernel
theorem dX9_begin_120 : decode cX9_begin 120 = .ok (.putfield 25, 3) := by decide +kernel
theorem dX9_begin_123 : decode cX9_begin 123 = .ok (.iinc 3 1, 3) := by decide +kernel
theorem dX9_begin_126 : decode cX9_begin 126 = .ok (.goto (-101), 3) := by decide +kernel
theorem dX9_begin_129 : decode cX9_begin 129 = .ok (.return_, 1) := by decide +kernel
theorem dX9_step_0 : decode cX9_step 0 = .ok (.iconst 0, 1) := by decide +kernel
theorem dX9_step_1 : decode cX9_step 1 = .ok (.istore_n 1, 1) := by decide +kernel
theorem dX9_step_2 : decode cX9_step 2 = .ok (.iconst 1, 1) := by decide +kernel
theorem dX9_step_3 : decode cX9_step 3 = .ok (.istore_n 2, 1) := by decide +kernel
theorem dX9_step_4 : decode cX9_step 4 = .ok (.iload_n 2, 1) := by decide +kernel
theorem dX9_step_5 : decode cX9_step 5 = .ok (.aload_n 0, 1) := by decide +kernel
theorem dX9_step_6 : decode cX9_step 6 = .ok (.getfield 18, 3) := by decide +kernel
theorem dX9_step_9 : decode cX9_step 9 = .ok (.if_icmp .gt 30, 3) := by decide +kernel
theorem dX9_step_12 : decode cX9_step 12 = .ok (.iload_n 1, 1) := by decide +kernel
theorem dX9_step_13 : decode cX9_step 13 = .ok (.aload_n 0, 1) := by decide +kernel
theorem dX9_step_14 : decode cX9_step 14 = .ok (.getfield 9, 3) := by decide +kernel
theorem dX9_step_17 : decode cX9_step 17 = .ok (.iload_n 2, 1) := by decide +kernel
theorem dX9_step_18 : decode cX9_step 18 = .ok (.iaload, 1) := by decide +kernel
theorem dX9_step_19 : decode cX9_step 19 = .ok (.aload_n 0, 1) := by decide +kernel
theorem dX9_step_20 : decode cX9_step 20 = .ok (.getfield 15, 3) := by decide +kernel
theorem dX9_step_23 : decode cX9_step 23 = .ok (.aload_n 0, 1) := by decide +kernel
theorem dX9_step_24 : decode cX9_step 24 = .ok (.getfield 18, 3) := by decide +kernel
theorem dX9_step_27 : decode cX9_step 27 = .ok (.iload_n 2, 1) := by decide +kernel
theorem dX9_step_28 : decode cX9_step 28 = .ok (.isub, 1) := by decide +kernel
theorem dX9_step_29 : decode cX9_step 29 = .ok (.iaload, 1) := by decide +kernel
theorem dX9_step_30 : decode cX9_step 30 = .ok (.imul, 1) := by decide +kernel
theorem dX9_step_31 : decode cX9_step 31 = .ok (.iadd, 1) := by decide +kernel
theorem dX9_step_32 : decode cX9_step 32 = .ok (.istore_n 1, 1) := by decide +kernel
theorem dX9_step_33 : decode cX9_step 33 = .ok (.iinc 2 1, 3) := by decide +kernel
theorem dX9_step_36 : decode cX9_step 36 = .ok (.goto (-32), 3) := by decide +kernel
theorem dX9_step_39 : decode cX9_step 39 = .ok (.iload_n 1, 1) := by decide +kernel
theorem dX9_step_40 : decode cX9_step 40 = .ok (.aload_n 0, 1) := by decide +kernel
theorem dX9_step_41 : decode cX9_step 41 = .ok (.getfield 22, 3) := by decide +kernel
theorem dX9_step_44 : decode cX9_step 44 = .ok (.irem, 1) := by decide +kernel
theorem dX9_step_45 : decode cX9_step 45 = .ok (.istore_n 1, 1) := by decide +kernel
theorem dX9_step_46 : decode cX9_step 46 = .ok (.iconst 1, 1) := by decide +kernel
theorem dX9_step_47 : decode cX9_step 47 = .ok (.istore_n 2, 1) := by decide +kernel
theorem dX9_step_48 : decode cX9_step 48 = .ok (.iload_n 2, 1) := by decide +kernel
theorem dX9_step_49 : decode cX9_step 49 = .ok (.aload_n 0, 1) := by decide +kernel
theorem dX9_step_50 : decode cX9_step 50 = .ok (.getfield 18, 3) := by decide +kernel
theorem dX9_step_53 : decode cX9_step 53 = .ok (.if_icmp .ge 23, 3) := by decide +kernel
theorem dX9_step_56 : decode cX9_step 56 = .ok (.aload_n 0, 1) := by decide +kernel
theorem dX9_step_57 : decode cX9_step 57 = .ok (.getfield 15, 3) := by decide +kernel
theorem dX9_step_60 : decode cX9_step 60 = .ok (.iload_n 2, 1) := by decide +kernel
theorem dX9_step_61 : decode cX9_step 61 = .ok (.iconst 1, 1) := by decide +kernel
theorem dX9_step_62 : decode cX9_step 62 = .ok (.isub, 1) := by decide +kernel
theorem dX9_step_63 : decode cX9_step 63 = .ok (.aload_n 0, 1) := by decide +kernel
theorem dX9_step_64 : decode cX9_step 64 = .ok (.getfield 15, 3) := by decide +kernel
theorem dX9_step_67 : decode cX9_step 67 = .ok (.iload_n 2, 1) := by decide +kernel
theorem dX9_step_68 : decode cX9_step 68 = .ok (.iaload, 1) := by decide +kernel
theorem dX9_step_69 : decode cX9_step 69 = .ok (.iastore, 1) := by decide +kernel
theorem dX9_step_70 : decode cX9_step 70 = .ok (.iinc 2 1, 3) := by decide +kernel
theorem dX9_step_73 : decode cX9_step 73 = .ok (.goto (-25), 3) := by decide +kernel
theorem dX9_step_76 : decode cX9_step 76 = .ok (.aload_n 0, 1) := by decide +kernel
theorem dX9_step_77 : decode cX9_step 77 = .ok (.getfield 15, 3) := by decide +kernel
theorem dX9_step_80 : decode cX9_step 80 = .ok (.aload_n 0, 1) := by decide +kernel
theorem dX9_step_81 : decode cX9_step 81 = .ok (.getfield 18, 3) := by decide +kernel
theorem dX9_step_84 : decode cX9_step 84 = .ok (.iconst 1, 1) := by decide +kernel
theorem dX9_step_85 : decode cX9_step 85 = .ok (.isub, 1) := by decide +kernel
theorem dX9_step_86 : decode cX9_step 86 = .ok (.iload_n 1, 1) := by decide +kernel
theorem dX9_step_87 : decode cX9_step 87 = .ok (.iastore, 1) := by decide +kernel
theorem dX9_step_88 : decode cX9_step 88 = .ok (.aload_n 0, 1) := by decide +kernel
theorem dX9_step_89 : decode cX9_step 89 = .ok (.aload_n 0, 1) := by decide +kernel
theorem dX9_step_90 : decode cX9_step 90 = .ok (.getfield 29, 3) := by decide +kernel
theorem dX9_step_93 : decode cX9_step 93 = .ok (.aload_n 0, 1) := by decide +kernel
theorem dX9_step_94 : decode cX9_step 94 = .ok (.getfield 25, 3) := by decide +kernel
theorem dX9_step_97 : decode cX9_step 97 = .ok (.lrem, 1) := by decide +kernel
theorem dX9_step_98 : decode cX9_step 98 = .ok (.aload_n 0, 1) := by decide +kernel
theorem dX9_step_99 : decode cX9_step 99 = .ok (.getfield 22, 3) := by decide +kernel
theorem dX9_step_102 : decode cX9_step 102 = .ok (.i2l, 1) := by decide +kernel
theorem dX9_step_103 : decode cX9_step 103 = .ok (.lmul, 1) := by decide +kernel
theorem dX9_step_104 : decode cX9_step 104 = .ok (.iload_n 1, 1) := by decide +kernel
theorem dX9_step_105 : decode cX9_step 105 = .ok (.i2l, 1) := by decide +kernel
theorem dX9_step_106 : decode cX9_step 106 = .ok (.ladd, 1) := by decide +kernel
theorem dX9_step_107 : decode cX9_step 107 = .ok (.putfield 29, 3) := by decide +kernel
theorem dX9_step_110 : decode cX9_step 110 = .ok (.return_, 1) := by decide +kernel
theorem dX9_here_0 : decode cX9_here 0 = .ok (.aload_n 0, 1) := by decide +kernel
theorem dX9_here_1 : decode cX9_here 1 = .ok (.getfield 15, 3) := by decide +kernel
theorem dX9_here_4 : decode cX9_here 4 = .ok (.iconst 0, 1) := by decide +kernel
theorem dX9_here_5 : decode cX9_here 5 = .ok (.iaload, 1) := by decide +kernel
theorem dX9_here_6 : decode cX9_here 6 = .ok (.ireturn, 1) := by decide +kernel
theorem dX10_init_0 : decode cX10_init 0 = .ok (.aload_n 0, 1) := by decide +kernel
theorem dX10_init_1 : decode cX10_init 1 = .ok (.invokespecial 1, 3) := by decide +kernel
theorem dX10_init_4 : decode cX10_init 4 = .ok (.aload_n 0, 1) := by decide +kernel
theorem dX10_init_5 : decode cX10_init 5 = .ok (.new 7, 3) := by decide +kernel
theorem dX10_init_8 : decode cX10_init 8 = .ok (.dup, 1) := by decide +kernel
theorem dX10_init_9 : decode cX10_init 9 = .ok (.invokespecial 9, 3) := by decide +kernel
theorem dX10_init_12 : decode cX10_init 12 = .ok (.putfield 10, 3) := by decide +kernel
theorem dX10_init_15 : decode cX10_init 15 = .ok (.aload_n 0, 1) := by decide +kernel
theorem dX10_init_16 : decode cX10_init 16 = .ok (.bipush 6, 2) := by decide +kernel
theorem dX10_init_18 : decode cX10_init 18 = .ok (.anewarray 16, 3) := by decide +kernel
theorem dX10_init_21 : decode cX10_init 21 = .ok (.putfield 18, 3) := by decide +kernel
theorem dX10_init_24 : decode cX10_init 24 = .ok (.aload_n 0, 1) := by decide +kernel
theorem dX10_init_25 : decode cX10_init 25 = .ok (.new 22, 3) := by decide +kernel
theorem dX10_init_28 : decode cX10_init 28 = .ok (.dup, 1) := by decide +kernel
theorem dX10_init_29 : decode cX10_init 29 = .ok (.invokespecial 24, 3) := by decide +kernel
theorem dX10_init_32 : decode cX10_init 32 = .ok (.putfield 25, 3) := by decide +kernel
theorem dX10_init_35 : decode cX10_init 35 = .ok (.aload_n 0, 1) := by decide +kernel
theorem dX10_init_36 : decode cX10_init 36 = .ok (.new 29, 3) := by decide +kernel
theorem dX10_init_39 : decode cX10_init 39 = .ok (.dup, 1) := by decide +kernel
theorem dX10_init_40 : decode cX10_init 40 = .ok (.invokespecial 31, 3) := by decide +kernel
theorem dX10_init_43 : decode cX10_init 43 = .ok (.putfield 32, 3) := by decide +kernel
theorem dX10_init_46 : decode cX10_init 46 = .ok (.aload_n 0, 1) := by decide +kernel
theorem dX10_init_47 : decode cX10_init 47 = .ok (.new 36, 3) := by decide +kernel
theorem dX10_init_50 : decode cX10_init 50 = .ok (.dup, 1) := by decide +kernel
theorem dX10_init_51 : decode cX10_init 51 = .ok (.invokespecial 38, 3) := by decide +kernel
theorem dX10_init_54 : decode cX10_init 54 = .ok (.putfield 39, 3) := by decide +kernel
theorem dX10_init_57 : decode cX10_init 57 = .ok (.aload_n 0, 1) := by decide +kernel
theorem dX10_init_58 : decode cX10_init 58 = .ok (.new 43, 3) := by decide +kernel
theorem dX10_init_61 : decode cX10_init 61 = .ok (.dup, 1) := by decide +kernel
theorem dX10_init_62 : decode cX10_init 62 = .ok (.invokespecial 45, 3) := by decide +kernel
theorem dX10_init_65 : decode cX10_init 65 = .ok (.putfield 46, 3) := by decide +kernel
theorem dX10_init_68 : decode cX10_init 68 = .ok (.aload_n 0, 1) := by decide +kernel
theorem dX10_init_69 : decode cX10_init 69 = .ok (.new 50, 3) := by decide +kernel
theorem dX10_init_72 : decode cX10_init 72 = .ok (.dup, 1) := by decide +kernel
theorem dX10_init_73 : decode cX10_init 73 = .ok (.invokespecial 52, 3) := by decide +kernel
theorem dX10_init_76 : decode cX10_init 76 = .ok (.putfield 53, 3) := by decide +kernel
theorem dX10_init_79 : decode cX10_init 79 = .ok (.aload_n 0, 1) := by decide +kernel
theorem dX10_init_80 : decode cX10_init 80 = .ok (.new 57, 3) := by decide +kernel
theorem dX10_init_83 : decode cX10_init 83 = .ok (.dup, 1) := by decide +kernel
theorem dX10_init_84 : decode cX10_init 84 = .ok (.invokespecial 59, 3) := by decide +kernel
theorem dX10_init_87 : decode cX10_init 87 = .ok (.putfield 60, 3) := by decide +kernel
theorem dX10_init_90 : decode cX10_init 90 = .ok (.aload_n 0, 1) := by decide +kernel
theorem dX10_init_91 : decode cX10_init 91 = .ok (.sipush 2001, 3) := by decide +kernel
theorem dX10_init_94 : decode cX10_init 94 = .ok (.newarray .long, 2) := by decide +kernel
theorem dX10_init_96 : decode cX10_init 96 = .ok (.putfield 64, 3) := by decide +kernel
theorem dX10_init_99 : decode cX10_init 99 = .ok (.aload_n 0, 1) := by decide +kernel
theorem dX10_init_100 : decode cX10_init 100 = .ok (.bipush 12, 2) := by decide +kernel
theorem dX10_init_102 : decode cX10_init 102 = .ok (.newarray .long, 2) := by decide +kernel
theorem dX10_init_104 : decode cX10_init 104 = .ok (.putfield 68, 3) := by decide +kernel
theorem dX10_init_107 : decode cX10_init 107 = .ok (.iconst 0, 1) := by decide +kernel
theorem dX10_init_108 : decode cX10_init 108 = .ok (.istore_n 1, 1) := by decide +kernel
theorem dX10_init_109 : decode cX10_init 109 = .ok (.iload_n 1, 1) := by decide +kernel
theorem dX10_init_110 : decode cX10_init 110 = .ok (.bipush 6, 2) := by decide +kernel
theorem dX10_init_112 : decode cX10_init 112 = .ok (.if_icmp .ge 22, 3) := by decide +kernel
theorem dX10_init_115 : decode cX10_init 115 = .ok (.aload_n 0, 1) := by decide +kernel
theorem dX10_init_116 : decode cX10_init 116 = .ok (.getfield 18, 3) := by decide +kernel
theorem dX10_init_119 : decode cX10_init 119 = .ok (.iload_n 1, 1) := by decide +kernel
theorem dX10_init_120 : decode cX10_init 120 = .ok (.new 16, 3) := by decide +kernel
theorem dX10_init_123 : decode cX10_init 123 = .ok (.dup, 1) := by decide +kernel
theorem dX10_init_124 : decode cX10_init 124 = .ok (.invokespecial 71, 3) := by decide +kernel
theorem dX10_init_127 : decode cX10_init 127 = .ok (.aastore, 1) := by decide +kernel
theorem dX10_init_128 : decode cX10_init 128 = .ok (.iinc 1 1, 3) := by decide +kernel
theorem dX10_init_131 : decode cX10_init 131 = .ok (.goto (-22), 3) := by decide +kernel
theorem dX10_init_134 : decode cX10_init 134 = .ok (.return_, 1) := by decide +kernel
theorem dX10_write_0 : decode cX10_write 0 = .ok (.iload_n 1, 1) := by decide +kernel
theorem dX10_write_1 : decode cX10_write 1 = .ok (.iconst 1, 1) := by decide +kernel
theorem dX10_write_2 : decode cX10_write 2 = .ok (.if_icmp .lt 9, 3) := by decide +kernel
theorem dX10_write_5 : decode cX10_write 5 = .ok (.iload_n 1, 1) := by decide +kernel
theorem dX10_write_6 : decode cX10_write 6 = .ok (.bipush 8, 2) := by decide +kernel
theorem dX10_write_8 : decode cX10_write 8 = .ok (.if_icmp .le 5, 3) := by decide +kernel
theorem dX10_write_11 : decode cX10_write 11 = .ok (.iconst (-1), 1) := by decide +kernel
theorem dX10_write_12 : decode cX10_write 12 = .ok (.ireturn, 1) := by decide +kernel
theorem dX10_write_13 : decode cX10_write 13 = .ok (.aload_n 0, 1) := by decide +kernel
theorem dX10_write_14 : decode cX10_write 14 = .ok (.getfield 10, 3) := by decide +kernel
theorem dX10_write_17 : decode cX10_write 17 = .ok (.iload_n 1, 1) := by decide +kernel
theorem dX10_write_18 : decode cX10_write 18 = .ok (.lload_n 2, 1) := by decide +kernel
theorem dX10_write_19 : decode cX10_write 19 = .ok (.invokevirtual 72, 3) := by decide +kernel
theorem dX10_write_22 : decode cX10_write 22 = .ok (.ifCond .eq 13, 3) := by decide +kernel
theorem dX10_write_25 : decode cX10_write 25 = .ok (.aload_n 0, 1) := by decide +kernel
theorem dX10_write_26 : decode cX10_write 26 = .ok (.getfield 10, 3) := by decide +kernel
theorem dX10_write_29 : decode cX10_write 29 = .ok (.getfield 76, 3) := by decide +kernel
theorem dX10_write_32 : decode cX10_write 32 = .ok (.goto 5, 3) := by decide +kernel
theorem dX10_write_35 : decode cX10_write 35 = .ok (.bipush (-3), 2) := by decide +kernel
theorem dX10_write_37 : decode cX10_write 37 = .ok (.ireturn, 1) := by decide +kernel
theorem dX10_wipe_0 : decode cX10_wipe 0 = .ok (.aload_n 0, 1) := by decide +kernel
theorem dX10_wipe_1 : decode cX10_wipe 1 = .ok (.getfield 10, 3) := by decide +kernel
theorem dX10_wipe_4 : decode cX10_wipe 4 = .ok (.getfield 76, 3) := by decide +kernel
theorem dX10_wipe_7 : decode cX10_wipe 7 = .ok (.istore_n 1, 1) := by decide +kernel
theorem dX10_wipe_8 : decode cX10_wipe 8 = .ok (.aload_n 0, 1) := by decide +kernel
theorem dX10_wipe_9 : decode cX10_wipe 9 = .ok (.getfield 10, 3) := by decide +kernel
theorem dX10_wipe_12 : decode cX10_wipe 12 = .ok (.iconst 0, 1) := by decide +kernel
theorem dX10_wipe_13 : decode cX10_wipe 13 = .ok (.putfield 76, 3) := by decide +kernel
theorem dX10_wipe_16 : decode cX10_wipe 16 = .ok (.iload_n 1, 1) := by decide +kernel
theorem dX10_wipe_17 : decode cX10_wipe 17 = .ok (.ireturn, 1) := by decide +kernel
theorem dX10_fault_0 : decode cX10_fault 0 = .ok (.aload_n 0, 1) := by decide +kernel
