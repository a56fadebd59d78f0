theorem dX0_init_0 : decode cX0_init 0 = .ok (.aload_n 0, 1) := by decide +kernel
theorem dX0_init_1 : decode cX0_init 1 = .ok (.invokespecial 1, 3) := by decide +kernel
theorem dX0_init_4 : decode cX0_init 4 = .ok (.aload_n 0, 1) := by decide +kernel
theorem dX0_init_5 : decode cX0_init 5 = .ok (.new 7, 3) := by decide +kernel
theorem dX0_init_8 : decode cX0_init 8 = .ok (.dup, 1) := by decide +kernel
theorem dX0_init_9 : decode cX0_init 9 = .ok (.invokespecial 9, 3) := by decide +kernel
theorem dX0_init_12 : decode cX0_init 12 = .ok (.putfield 10, 3) := by decide +kernel
theorem dX0_init_15 : decode cX0_init 15 = .ok (.aload_n 0, 1) := by decide +kernel
theorem dX0_init_16 : decode cX0_init 16 = .ok (.new 16, 3) := by decide +kernel
theorem dX0_init_19 : decode cX0_init 19 = .ok (.dup, 1) := by decide +kernel
theorem dX0_init_20 : decode cX0_init 20 = .ok (.invokespecial 18, 3) := by decide +kernel
theorem dX0_init_23 : decode cX0_init 23 = .ok (.putfield 19, 3) := by decide +kernel
theorem dX0_init_26 : decode cX0_init 26 = .ok (.aload_n 0, 1) := by decide +kernel
theorem dX0_init_27 : decode cX0_init 27 = .ok (.new 16, 3) := by decide +kernel
theorem dX0_init_30 : decode cX0_init 30 = .ok (.dup, 1) := by decide +kernel
theorem dX0_init_31 : decode cX0_init 31 = .ok (.invokespecial 18, 3) := by decide +kernel
theorem dX0_init_34 : decode cX0_init 34 = .ok (.putfield 23, 3) := by decide +kernel
theorem dX0_init_37 : decode cX0_init 37 = .ok (.aload_n 0, 1) := by decide +kernel
theorem dX0_init_38 : decode cX0_init 38 = .ok (.iconst 0, 1) := by decide +kernel
theorem dX0_init_39 : decode cX0_init 39 = .ok (.putfield 26, 3) := by decide +kernel
theorem dX0_init_42 : decode cX0_init 42 = .ok (.aload_n 0, 1) := by decide +kernel
theorem dX0_init_43 : decode cX0_init 43 = .ok (.iconst 0, 1) := by decide +kernel
theorem dX0_init_44 : decode cX0_init 44 = .ok (.putfield 30, 3) := by decide +kernel
theorem dX0_init_47 : decode cX0_init 47 = .ok (.return_, 1) := by decide +kernel
theorem dX0_search_0 : decode cX0_search 0 = .ok (.aload_n 0, 1) := by decide +kernel
theorem dX0_search_1 : decode cX0_search 1 = .ok (.iconst 0, 1) := by decide +kernel
theorem dX0_search_2 : decode cX0_search 2 = .ok (.putfield 26, 3) := by decide +kernel
theorem dX0_search_5 : decode cX0_search 5 = .ok (.aload_n 0, 1) := by decide +kernel
theorem dX0_search_6 : decode cX0_search 6 = .ok (.iconst 0, 1) := by decide +kernel
theorem dX0_search_7 : decode cX0_search 7 = .ok (.putfield 30, 3) := by decide +kernel
theorem dX0_search_10 : decode cX0_search 10 = .ok (.aload_n 0, 1) := by decide +kernel
theorem dX0_search_11 : decode cX0_search 11 = .ok (.getfield 19, 3) := by decide +kernel
theorem dX0_search_14 : decode cX0_search 14 = .ok (.iload_n 1, 1) := by decide +kernel
theorem dX0_search_15 : decode cX0_search 15 = .ok (.putfield 33, 3) := by decide +kernel
theorem dX0_search_18 : decode cX0_search 18 = .ok (.iconst 1, 1) := by decide +kernel
theorem dX0_search_19 : decode cX0_search 19 = .ok (.istore_n 3, 1) := by decide +kernel
theorem dX0_search_20 : decode cX0_search 20 = .ok (.iconst 0, 1) := by decide +kernel
theorem dX0_search_21 : decode cX0_search 21 = .ok (.istore 4, 2) := by decide +kernel
theorem dX0_search_23 : decode cX0_search 23 = .ok (.iload 4, 2) := by decide +kernel
theorem dX0_search_25 : decode cX0_search 25 = .ok (.iload_n 1, 1) := by decide +kernel
theorem dX0_search_26 : decode cX0_search 26 = .ok (.if_icmp .ge 36, 3) := by decide +kernel
theorem dX0_search_29 : decode cX0_search 29 = .ok (.aload_n 0, 1) := by decide +kernel
theorem dX0_search_30 : decode cX0_search 30 = .ok (.getfield 19, 3) := by decide +kernel
theorem dX0_search_33 : decode cX0_search 33 = .ok (.getfield 36, 3) := by decide +kernel
theorem dX0_search_36 : decode cX0_search 36 = .ok (.iload 4, 2) := by decide +kernel
theorem dX0_search_38 : decode cX0_search 38 = .ok (.iload 4, 2) := by decide +kernel
theorem dX0_search_40 : decode cX0_search 40 = .ok (.iload_n 1, 1) := by decide +kernel
theorem dX0_search_41 : decode cX0_search 41 = .ok (.iconst 1, 1) := by decide +kernel
theorem dX0_search_42 : decode cX0_search 42 = .ok (.isub, 1) := by decide +kernel
theorem dX0_search_43 : decode cX0_search 43 = .ok (.if_icmp .ne 7, 3) := by decide +kernel
theorem dX0_search_46 : decode cX0_search 46 = .ok (.lconst 1, 1) := by decide +kernel
theorem dX0_search_47 : decode cX0_search 47 = .ok (.goto 4, 3) := by decide +kernel
theorem dX0_search_50 : decode cX0_search 50 = .ok (.lconst 0, 1) := by decide +kernel
theorem dX0_search_51 : decode cX0_search 51 = .ok (.lastore, 1) := by decide +kernel
theorem dX0_search_52 : decode cX0_search 52 = .ok (.iload_n 3, 1) := by decide +kernel
theorem dX0_search_53 : decode cX0_search 53 = .ok (.iload_n 2, 1) := by decide +kernel
theorem dX0_search_54 : decode cX0_search 54 = .ok (.imul, 1) := by decide +kernel
theorem dX0_search_55 : decode cX0_search 55 = .ok (.istore_n 3, 1) := by decide +kernel
theorem dX0_search_56 : decode cX0_search 56 = .ok (.iinc 4 1, 3) := by decide +kernel
theorem dX0_search_59 : decode cX0_search 59 = .ok (.goto (-36), 3) := by decide +kernel
theorem dX0_search_62 : decode cX0_search 62 = .ok (.iconst 0, 1) := by decide +kernel
theorem dX0_search_63 : decode cX0_search 63 = .ok (.istore 4, 2) := by decide +kernel
theorem dX0_search_65 : decode cX0_search 65 = .ok (.iload 4, 2) := by decide +kernel
theorem dX0_search_67 : decode cX0_search 67 = .ok (.iload_n 3, 1) := by decide +kernel
theorem dX0_search_68 : decode cX0_search 68 = .ok (.if_icmp .ge 24, 3) := by decide +kernel
theorem dX0_search_71 : decode cX0_search 71 = .ok (.iload 4, 2) := by decide +kernel
theorem dX0_search_73 : decode cX0_search 73 = .ok (.iload_n 2, 1) := by decide +kernel
theorem dX0_search_74 : decode cX0_search 74 = .ok (.irem, 1) := by decide +kernel
theorem dX0_search_75 : decode cX0_search 75 = .ok (.ifCond .eq 11, 3) := by decide +kernel
theorem dX0_search_78 : decode cX0_search 78 = .ok (.aload_n 0, 1) := by decide +kernel
theorem dX0_search_79 : decode cX0_search 79 = .ok (.iload 4, 2) := by decide +kernel
theorem dX0_search_81 : decode cX0_search 81 = .ok (.iload_n 2, 1) := by decide +kernel
theorem dX0_search_82 : decode cX0_search 82 = .ok (.iload_n 3, 1) := by decide +kernel
theorem dX0_search_83 : decode cX0_search 83 = .ok (.invokevirtual 40, 3) := by decide +kernel
theorem dX0_search_86 : decode cX0_search 86 = .ok (.iinc 4 1, 3) := by decide +kernel
theorem dX0_search_89 : decode cX0_search 89 = .ok (.goto (-24), 3) := by decide +kernel
theorem dX0_search_92 : decode cX0_search 92 = .ok (.return_, 1) := by decide +kernel
theorem dX0_tryLaw_0 : decode cX0_tryLaw 0 = .ok (.iload_n 1, 1) := by decide +kernel
theorem dX0_tryLaw_1 : decode cX0_tryLaw 1 = .ok (.istore 4, 2) := by decide +kernel
theorem dX0_tryLaw_3 : decode cX0_tryLaw 3 = .ok (.aload_n 0, 1) := by decide +kernel
theorem dX0_tryLaw_4 : decode cX0_tryLaw 4 = .ok (.getfield 19, 3) := by decide +kernel
theorem dX0_tryLaw_7 : decode cX0_tryLaw 7 = .ok (.getfield 33, 3) := by decide +kernel
theorem dX0_tryLaw_10 : decode cX0_tryLaw 10 = .ok (.istore 5, 2) := by decide +kernel
theorem dX0_tryLaw_12 : decode cX0_tryLaw 12 = .ok (.iload 5, 2) := by decide +kernel
theorem dX0_tryLaw_14 : decode cX0_tryLaw 14 = .ok (.iconst 1, 1) := by decide +kernel
theorem dX0_tryLaw_15 : decode cX0_tryLaw 15 = .ok (.if_icmp .lt 30, 3) := by decide +kernel
theorem dX0_tryLaw_18 : decode cX0_tryLaw 18 = .ok (.aload_n 0, 1) := by decide +kernel
theorem dX0_tryLaw_19 : decode cX0_tryLaw 19 = .ok (.getfield 19, 3) := by decide +kernel
theorem dX0_tryLaw_22 : decode cX0_tryLaw 22 = .ok (.getfield 44, 3) := by decide +kernel
theorem dX0_tryLaw_25 : decode cX0_tryLaw 25 = .ok (.iload 5, 2) := by decide +kernel
theorem dX0_tryLaw_27 : decode cX0_tryLaw 27 = .ok (.iload 4, 2) := by decide +kernel
theorem dX0_tryLaw_29 : decode cX0_tryLaw 29 = .ok (.iload_n 2, 1) := by decide +kernel
theorem dX0_tryLaw_30 : decode cX0_tryLaw 30 = .ok (.irem, 1) := by decide +kernel
theorem dX0_tryLaw_31 : decode cX0_tryLaw 31 = .ok (.i2l, 1) := by decide +kernel
theorem dX0_tryLaw_32 : decode cX0_tryLaw 32 = .ok (.lastore, 1) := by decide +kernel
theorem dX0_tryLaw_33 : decode cX0_tryLaw 33 = .ok (.iload 4, 2) := by decide +kernel
theorem dX0_tryLaw_35 : decode cX0_tryLaw 35 = .ok (.iload_n 2, 1) := by decide +kernel
theorem dX0_tryLaw_36 : decode cX0_tryLaw 36 = .ok (.idiv, 1) := by decide +kernel
theorem dX0_tryLaw_37 : decode cX0_tryLaw 37 = .ok (.istore 4, 2) := by decide +kernel
theorem dX0_tryLaw_39 : decode cX0_tryLaw 39 = .ok (.iinc 5 (-1), 3) := by decide +kernel
theorem dX0_tryLaw_42 : decode cX0_tryLaw 42 = .ok (.goto (-30), 3) := by decide +kernel
theorem dX0_tryLaw_45 : decode cX0_tryLaw 45 = .ok (.aload_n 0, 1) := by decide +kernel
theorem dX0_tryLaw_46 : decode cX0_tryLaw 46 = .ok (.iload_n 2, 1) := by decide +kernel
theorem dX0_tryLaw_47 : decode cX0_tryLaw 47 = .ok (.iload_n 3, 1) := by decide +kernel
theorem dX0_tryLaw_48 : decode cX0_tryLaw 48 = .ok (.invokevirtual 47, 3) := by decide +kernel
theorem dX0_tryLaw_51 : decode cX0_tryLaw 51 = .ok (.istore 5, 2) := by decide +kernel
theorem dX0_tryLaw_53 : decode cX0_tryLaw 53 = .ok (.iload 5, 2) := by decide +kernel
theorem dX0_tryLaw_55 : decode cX0_tryLaw 55 = .ok (.aload_n 0, 1) := by decide +kernel
theorem dX0_tryLaw_56 : decode cX0_tryLaw 56 = .ok (.getfield 30, 3) := by decide +kernel
theorem dX0_tryLaw_59 : decode cX0_tryLaw 59 = .ok (.if_icmp .le 25, 3) := by decide +kernel
theorem dX0_tryLaw_62 : decode cX0_tryLaw 62 = .ok (.aload_n 0, 1) := by decide +kernel
theorem dX0_tryLaw_63 : decode cX0_tryLaw 63 = .ok (.iload 5, 2) := by decide +kernel
theorem dX0_tryLaw_65 : decode cX0_tryLaw 65 = .ok (.putfield 30, 3) := by decide +kernel
theorem dX0_tryLaw_68 : decode cX0_tryLaw 68 = .ok (.aload_n 0, 1) := by decide +kernel
theorem dX0_tryLaw_69 : decode cX0_tryLaw 69 = .ok (.iconst 0, 1) := by decide +kernel
theorem dX0_tryLaw_70 : decode cX0_tryLaw 70 = .ok (.putfield 26, 3) := by decide +kernel
theorem dX0_tryLaw_73 : decode cX0_tryLaw 73 = .ok (.aload_n 0, 1) := by decide +kernel
theorem dX0_tryLaw_74 : decode cX0_tryLaw 74 = .ok (.getfield 23, 3) := by decide +kernel
theorem dX0_tryLaw_77 : decode cX0_tryLaw 77 = .ok (.aload_n 0, 1) := by decide +kernel
theorem dX0_tryLaw_78 : decode cX0_tryLaw 78 = .ok (.getfield 19, 3) := by decide +kernel
theorem dX0_tryLaw_81 : decode cX0_tryLaw 81 = .ok (.invokevirtual 51, 3) := by decide +kernel
theorem dX0_tryLaw_84 : decode cX0_tryLaw 84 = .ok (.iload 5, 2) := by decide +kernel
theorem dX0_tryLaw_86 : decode cX0_tryLaw 86 = .ok (.aload_n 0, 1) := by decide +kernel
theorem dX0_tryLaw_87 : decode cX0_tryLaw 87 = .ok (.getfield 30, 3) := by decide +kernel
theorem dX0_tryLaw_90 : decode cX0_tryLaw 90 = .ok (.if_icmp .ne 13, 3) := by decide +kernel
theorem dX0_tryLaw_93 : decode cX0_tryLaw 93 = .ok (.aload_n 0, 1) := by decide +kernel
theorem dX0_tryLaw_94 : decode cX0_tryLaw 94 = .ok (.dup, 1) := by decide +kernel
theorem dX0_tryLaw_95 : decode cX0_tryLaw 95 = .ok (.getfield 26, 3) := by decide +kernel
theorem dX0_tryLaw_98 : decode cX0_tryLaw 98 = .ok (.iconst 1, 1) := by decide +kernel
theorem dX0_tryLaw_99 : decode cX0_tryLaw 99 = .ok (.iadd, 1) := by decide +kernel
theorem dX0_tryLaw_100 : decode cX0_tryLaw 100 = .ok (.putfield 26, 3) := by decide +kernel
theorem dX0_tryLaw_103 : decode cX0_tryLaw 103 = .ok (.return_, 1) := by decide +kernel
theorem dX0_turnOfTried_0 : decode cX0_turnOfTried 0 = .ok (.aload_n 0, 1) := by decide +kernel
theorem dX0_turnOfTried_1 : decode cX0_turnOfTried 1 = .ok (.getfield 10, 3) := by decide +kernel
theorem dX0_turnOfTried_4 : decode cX0_turnOfTried 4 = .ok (.aload_n 0, 1) := by decide +kernel
theorem dX0_turnOfTried_5 : decode cX0_turnOfTried 5 = .ok (.getfield 19, 3) := by decide +kernel
theorem dX0_turnOfTried_8 : decode cX0_turnOfTried 8 = .ok (.iload_n 1, 1) := by decide +kernel
theorem dX0_turnOfTried_9 : decode cX0_turnOfTried 9 = .ok (.invokevirtual 55, 3) := by decide +kernel
theorem dX0_turnOfTried_12 : decode cX0_turnOfTried 12 = .ok (.aload_n 0, 1) := by decide +kernel
theorem dX0_turnOfTried_13 : decode cX0_turnOfTried 13 = .ok (.getfield 10, 3) := by decide +kernel
theorem dX0_turnOfTried_16 : decode cX0_turnOfTried 16 = .ok (.getfield 59, 3) := by decide +kernel
theorem dX0_turnOfTried_19 : decode cX0_turnOfTried 19 = .ok (.lstore_n 3, 1) := by decide +kernel
theorem dX0_turnOfTried_20 : decode cX0_turnOfTried 20 = .ok (.iconst 1, 1) := by decide +kernel
theorem dX0_turnOfTried_21 : decode cX0_turnOfTried 21 = .ok (.istore 5, 2) := by decide +kernel
theorem dX0_turnOfTried_23 : decode cX0_turnOfTried 23 = .ok (.iload 5, 2) := by decide +kernel
theorem dX0_turnOfTried_25 : decode cX0_turnOfTried 25 = .ok (.iload_n 2, 1) := by decide +kernel
theorem dX0_turnOfTried_26 : decode cX0_turnOfTried 26 = .ok (.if_icmp .ge 31, 3) := by decide +kernel
theorem dX0_turnOfTried_29 : decode cX0_turnOfTried 29 = .ok (.aload_n 0, 1) := by decide +kernel
theorem dX0_turnOfTried_30 : decode cX0_turnOfTried 30 = .ok (.getfield 10, 3) := by decide +kernel
theorem dX0_turnOfTried_33 : decode cX0_turnOfTried 33 = .ok (.invokevirtual 63, 3) := by decide +kernel
theorem dX0_turnOfTried_36 : decode cX0_turnOfTried 36 = .ok (.aload_n 0, 1) := by decide +kernel
theorem dX0_turnOfTried_37 : decode cX0_turnOfTried 37 = .ok (.getfield 10, 3) := by decide +kernel
theorem dX0_turnOfTried_40 : decode cX0_turnOfTried 40 = .ok (.getfield 59, 3) := by decide +kernel
theorem dX0_turnOfTried_43 : decode cX0_turnOfTried 43 = .ok (.lload_n 3, 1) := by decide +kernel
theorem dX0_turnOfTried_44 : decode cX0_turnOfTried 44 = .ok (.lcmp, 1) := by decide +kernel
theorem dX0_turnOfTried_45 : decode cX0_turnOfTried 45 = .ok (.ifCond .ne 6, 3) := by decide +kernel
theorem dX0_turnOfTried_48 : decode cX0_turnOfTried 48 = .ok (.iload 5, 2) := by decide +kernel
theorem dX0_turnOfTried_50 : decode cX0_turnOfTried 50 = .ok (.ireturn, 1) := by decide +kernel
theorem dX0_turnOfTried_51 : decode cX0_turnOfTried 51 = .ok (.iinc 5 1, 3) := by decide +kernel
theorem dX0_turnOfTried_54 : decode cX0_turnOfTried 54 = .ok (.goto (-31), 3) := by decide +kernel
theorem dX0_turnOfTried_57 : decode cX0_turnOfTried 57 = .ok (.iload_n 2, 1) := by decide +kernel
theorem dX0_turnOfTried_58 : decode cX0_turnOfTried 58 = .ok (.ireturn, 1) := by decide +kernel
theorem dX1_init_0 : decode cX1_init 0 = .ok (.aload_n 0, 1) := by decide +kernel
theorem dX1_init_1 : decode cX1_init 1 = .ok (.invokespecial 3, 3) := by decide +kernel
theorem dX1_init_4 : decode cX1_init 4 = .ok (.aload_n 0, 1) := by decide +kernel
theorem dX1_init_5 : decode cX1_init 5 = .ok (.new 9, 3) := by decide +kernel
theorem dX1_init_8 : decode cX1_init 8 = .ok (.dup, 1) := by decide +kernel
theorem dX1_init_9 : decode cX1_init 9 = .ok (.invokespecial 11, 3) := by decide +kernel
theorem dX1_init_12 : decode cX1_init 12 = .ok (.putfield 12, 3) := by decide +kernel
theorem dX1_init_15 : decode cX1_init 15 = .ok (.aload_n 0, 1) := by decide +kernel
theorem dX1_init_16 : decode cX1_init 16 = .ok (.new 9, 3) := by decide +kernel
theorem dX1_init_19 : decode cX1_init 19 = .ok (.dup, 1) := by decide +kernel
theorem dX1_init_20 : decode cX1_init 20 = .ok (.invokespecial 11, 3) := by decide +kernel
theorem dX1_init_23 : decode cX1_init 23 = .ok (.putfield 18, 3) := by decide +kernel
theorem dX1_init_26 : decode cX1_init 26 = .ok (.aload_n 0, 1) := by decide +kernel
theorem dX1_init_27 : decode cX1_init 27 = .ok (.sipush 1006, 3) := by decide +kernel
theorem dX1_init_30 : decode cX1_init 30 = .ok (.newarray .long, 2) := by decide +kernel
theorem dX1_init_32 : decode cX1_init 32 = .ok (.putfield 21, 3) := by decide +kernel
theorem dX1_init_35 : decode cX1_init 35 = .ok (.aload_n 0, 1) := by decide +kernel
theorem dX1_init_36 : decode cX1_init 36 = .ok (.bipush 6, 2) := by decide +kernel
theorem dX1_init_38 : decode cX1_init 38 = .ok (.newarray .long, 2) := by decide +kernel
theorem dX1_init_40 : decode cX1_init 40 = .ok (.putfield 25, 3) := by decide +kernel
theorem dX1_init_43 : decode cX1_init 43 = .ok (.aload_n 0, 1) := by decide +kernel
theorem dX1_init_44 : decode cX1_init 44 = .ok (.bipush 37, 2) := by decide +kernel
theorem dX1_init_46 : decode cX1_init 46 = .ok (.newarray .long, 2) := by decide +kernel
theorem dX1_init_48 : decode cX1_init 48 = .ok (.putfield 28, 3) := by decide +kernel
theorem dX1_init_51 : decode cX1_init 51 = .ok (.aload_n 0, 1) := by decide +kernel
theorem dX1_init_52 : decode cX1_init 52 = .ok (.bipush 7, 2) := by decide +kernel
theorem dX1_init_54 : decode cX1_init 54 = .ok (.newarray .long, 2) := by decide +kernel
theorem dX1_init_56 : decode cX1_init 56 = .ok (.putfield 31, 3) := by decide +kernel
theorem dX1_init_59 : decode cX1_init 59 = .ok (.return_, 1) := by decide +kernel
theorem dX1_build_0 : decode cX1_build 0 = .ok (.aload_n 0, 1) := by decide +kernel
theorem dX1_build_1 : decode cX1_build 1 = .ok (.iload_n 1, 1) := by decide +kernel
theorem dX1_build_2 : decode cX1_build 2 = .ok (.aload_n 2, 1) := by decide +kernel
theorem dX1_build_3 : decode cX1_build 3 = .ok (.aload_n 3, 1) := by decide +kernel
theorem dX1_build_4 : decode cX1_build 4 = .ok (.iload 4, 2) := by decide +kernel
theorem dX1_build_6 : decode cX1_build 6 = .ok (.invokevirtual 34, 3) := by decide +kernel
theorem dX1_build_9 : decode cX1_build 9 = .ok (.ifCond .eq 19, 3) := by decide +kernel
theorem dX1_build_12 : decode cX1_build 12 = .ok (.aload_n 0, 1) := by decide +kernel
theorem dX1_build_13 : decode cX1_build 13 = .ok (.iload_n 1, 1) := by decide +kernel
theorem dX1_build_14 : decode cX1_build 14 = .ok (.aload_n 2, 1) := by decide +kernel
theorem dX1_build_15 : decode cX1_build 15 = .ok (.aload_n 3, 1) := by decide +kernel
theorem dX1_build_16 : decode cX1_build 16 = .ok (.iload 4, 2) := by decide +kernel
theorem dX1_build_18 : decode cX1_build 18 = .ok (.invokevirtual 38, 3) := by decide +kernel
theorem dX1_build_21 : decode cX1_build 21 = .ok (.ifCond .eq 7, 3) := by decide +kernel
theorem dX1_build_24 : decode cX1_build 24 = .ok (.iconst 1, 1) := by decide +kernel
theorem dX1_build_25 : decode cX1_build 25 = .ok (.goto 4, 3) := by decide +kernel
theorem dX1_build_28 : decode cX1_build 28 = .ok (.iconst 0, 1) := by decide +kernel
theorem dX1_build_29 : decode cX1_build 29 = .ok (.ireturn, 1) := by decide +kernel
theorem dX1_makeLaw_0 : decode cX1_makeLaw 0 = .ok (.iload_n 1, 1) := by decide +kernel
theorem dX1_makeLaw_1 : decode cX1_makeLaw 1 = .ok (.tableswitch 71 0 5 #[39, 39, 46, 39, 53, 61], 39) := by decide +kernel
theorem dX1_makeLaw_40 : decode cX1_makeLaw 40 = .ok (.aload_n 0, 1) := by decide +kernel
theorem dX1_makeLaw_41 : decode cX1_makeLaw 41 = .ok (.aload_n 2, 1) := by decide +kernel
theorem dX1_makeLaw_42 : decode cX1_makeLaw 42 = .ok (.aload_n 3, 1) := by decide +kernel
theorem dX1_makeLaw_43 : decode cX1_makeLaw 43 = .ok (.invokevirtual 41, 3) := by decide +kernel
theorem dX1_makeLaw_46 : decode cX1_makeLaw 46 = .ok (.ireturn, 1) := by decide +kernel
theorem dX1_makeLaw_47 : decode cX1_makeLaw 47 = .ok (.aload_n 0, 1) := by decide +kernel
theorem dX1_makeLaw_48 : decode cX1_makeLaw 48 = .ok (.aload_n 2, 1) := by decide +kernel
theorem dX1_makeLaw_49 : decode cX1_makeLaw 49 = .ok (.aload_n 3, 1) := by decide +kernel
theorem dX1_makeLaw_50 : decode cX1_makeLaw 50 = .ok (.invokevirtual 45, 3) := by decide +kernel
theorem dX1_makeLaw_53 : decode cX1_makeLaw 53 = .ok (.ireturn, 1) := by decide +kernel
theorem dX1_makeLaw_54 : decode cX1_makeLaw 54 = .ok (.aload_n 0, 1) := by decide +kernel
theorem dX1_makeLaw_55 : decode cX1_makeLaw 55 = .ok (.aload_n 2, 1) := by decide +kernel
theorem dX1_makeLaw_56 : decode cX1_makeLaw 56 = .ok (.iload 4, 2) := by decide +kernel
theorem dX1_makeLaw_58 : decode cX1_makeLaw 58 = .ok (.invokevirtual 48, 3) := by decide +kernel
theorem dX1_makeLaw_61 : decode cX1_makeLaw 61 = .ok (.ireturn, 1) := by decide +kernel
theorem dX1_makeLaw_62 : decode cX1_makeLaw 62 = .ok (.aload_n 0, 1) := by decide +kernel
theorem dX1_makeLaw_63 : decode cX1_makeLaw 63 = .ok (.aload_n 2, 1) := by decide +kernel
theorem dX1_makeLaw_64 : decode cX1_makeLaw 64 = .ok (.aload_n 0, 1) := by decide +kernel
theorem dX1_makeLaw_65 : decode cX1_makeLaw 65 = .ok (.getfield 18, 3) := by decide +kernel
theorem dX1_makeLaw_68 : decode cX1_makeLaw 68 = .ok (.invokevirtual 41, 3) := by decide +kernel
theorem dX1_makeLaw_71 : decode cX1_makeLaw 71 = .ok (.ireturn, 1) := by decide +kernel
theorem dX1_makeLaw_72 : decode cX1_makeLaw 72 = .ok (.aload_n 0, 1) := by decide +kernel
theorem dX1_makeLaw_73 : decode cX1_makeLaw 73 = .ok (.getfield 12, 3) := by decide +kernel
theorem dX1_makeLaw_76 : decode cX1_makeLaw 76 = .ok (.aload_n 2, 1) := by decide +kernel
theorem dX1_makeLaw_77 : decode cX1_makeLaw 77 = .ok (.invokevirtual 52, 3) := by decide +kernel
theorem dX1_makeLaw_80 : decode cX1_makeLaw 80 = .ok (.iconst 1, 1) := by decide +kernel
theorem dX1_makeLaw_81 : decode cX1_makeLaw 81 = .ok (.ireturn, 1) := by decide +kernel
theorem dX1_multiplyPolynomials_0 : decode cX1_multiplyPolynomials 0 = .ok (.aload_n 1, 1) := by decide +kernel
theorem dX1_multiplyPolynomials_1 : decode cX1_multiplyPolynomials 1 = .ok (.getfield 56, 3) := by decide +kernel
theorem dX1_multiplyPolynomials_4 : decode cX1_multiplyPolynomials 4 = .ok (.aload_n 2, 1) := by decide +kernel
theorem dX1_multiplyPolynomials_5 : decode cX1_multiplyPolynomials 5 = .ok (.getfield 56, 3) := by decide +kernel
theorem dX1_multiplyPolynomials_8 : decode cX1_multiplyPolynomials 8 = .ok (.iadd, 1) := by decide +kernel
theorem dX1_multiplyPolynomials_9 : decode cX1_multiplyPolynomials 9 = .ok (.bipush 6, 2) := by decide +kernel
theorem dX1_multiplyPolynomials_11 : decode cX1_multiplyPolynomials 11 = .ok (.if_icmp .le 5, 3) := by decide +kernel
theorem dX1_multiplyPolynomials_14 : decode cX1_multiplyPolynomials 14 = .ok (.iconst 0, 1) := by decide +kernel
theorem dX1_multiplyPolynomials_15 : decode cX1_multiplyPolynomials 15 = .ok (.ireturn, 1) := by decide +kernel
theorem dX1_multiplyPolynomials_16 : decode cX1_multiplyPolynomials 16 = .ok (.aload_n 0, 1) := by decide +kernel
theorem dX1_multiplyPolynomials_17 : decode cX1_multiplyPolynomials 17 = .ok (.getfield 12, 3) := by decide +kernel
theorem dX1_multiplyPolynomials_20 : decode cX1_multiplyPolynomials 20 = .ok (.aload_n 1, 1) := by decide +kernel
theorem dX1_multiplyPolynomials_21 : decode cX1_multiplyPolynomials 21 = .ok (.getfield 56, 3) := by decide +kernel
theorem dX1_multiplyPolynomials_24 : decode cX1_multiplyPolynomials 24 = .ok (.aload_n 2, 1) := by decide +kernel
theorem dX1_multiplyPolynomials_25 : decode cX1_multiplyPolynomials 25 = .ok (.getfield 56, 3) := by decide +kernel
theorem dX1_multiplyPolynomials_28 : decode cX1_multiplyPolynomials 28 = .ok (.iadd, 1) := by decide +kernel
theorem dX1_multiplyPolynomials_29 : decode cX1_multiplyPolynomials 29 = .ok (.putfield 56, 3) := by decide +kernel
theorem dX1_multiplyPolynomials_32 : decode cX1_multiplyPolynomials 32 = .ok (.iconst 1, 1) := by decide +kernel
theorem dX1_multiplyPolynomials_33 : decode cX1_multiplyPolynomials 33 = .ok (.istore_n 3, 1) := by decide +kernel
theorem dX1_multiplyPolynomials_34 : decode cX1_multiplyPolynomials 34 = .ok (.iload_n 3, 1) := by decide +kernel
theorem dX1_multiplyPolynomials_35 : decode cX1_multiplyPolynomials 35 = .ok (.aload_n 0, 1) := by decide +kernel
theorem dX1_multiplyPolynomials_36 : decode cX1_multiplyPolynomials 36 = .ok (.getfield 12, 3) := by decide +kernel
theorem dX1_multiplyPolynomials_39 : decode cX1_multiplyPolynomials 39 = .ok (.getfield 56, 3) := by decide +kernel
theorem dX1_multiplyPolynomials_42 : decode cX1_multiplyPolynomials 42 = .ok (.if_icmp .gt 90, 3) := by decide +kernel
theorem dX1_multiplyPolynomials_45 : decode cX1_multiplyPolynomials 45 = .ok (.lconst 0, 1) := by decide +kernel
theorem dX1_multiplyPolynomials_46 : decode cX1_multiplyPolynomials 46 = .ok (.lstore 4, 2) := by decide +kernel
theorem dX1_multiplyPolynomials_48 : decode cX1_multiplyPolynomials 48 = .ok (.iconst 0, 1) := by decide +kernel
theorem dX1_multiplyPolynomials_49 : decode cX1_multiplyPolynomials 49 = .ok (.iload_n 3, 1) := by decide +kernel
theorem dX1_multiplyPolynomials_50 : decode cX1_multiplyPolynomials 50 = .ok (.aload_n 2, 1) := by decide +kernel
theorem dX1_multiplyPolynomials_51 : decode cX1_multiplyPolynomials 51 = .ok (.getfield 56, 3) := by decide +kernel
theorem dX1_multiplyPolynomials_54 : decode cX1_multiplyPolynomials 54 = .ok (.isub, 1) := by decide +kernel
theorem dX1_multiplyPolynomials_55 : decode cX1_multiplyPolynomials 55 = .ok (.invokestatic 60, 3) := by decide +kernel
theorem dX1_multiplyPolynomials_58 : decode cX1_multiplyPolynomials 58 = .ok (.istore 6, 2) := by decide +kernel
theorem dX1_multiplyPolynomials_60 : decode cX1_multiplyPolynomials 60 = .ok (.iload 6, 2) := by decide +kernel
theorem dX1_multiplyPolynomials_62 : decode cX1_multiplyPolynomials 62 = .ok (.iload_n 3, 1) := by decide +kernel
theorem dX1_multiplyPolynomials_63 : decode cX1_multiplyPolynomials 63 = .ok (.aload_n 1, 1) := by decide +kernel
theorem dX1_multiplyPolynomials_64 : decode cX1_multiplyPolynomials 64 = .ok (.getfield 56, 3) := by decide +kernel
theorem dX1_multiplyPolynomials_67 : decode cX1_multiplyPolynomials 67 = .ok (.invokestatic 66, 3) := by decide +kernel
theorem dX1_multiplyPolynomials_70 : decode cX1_multiplyPolynomials 70 = .ok (.if_icmp .gt 31, 3) := by decide +kernel
theorem dX1_multiplyPolynomials_73 : decode cX1_multiplyPolynomials 73 = .ok (.lload 4, 2) := by decide +kernel
theorem dX1_multiplyPolynomials_75 : decode cX1_multiplyPolynomials 75 = .ok (.aload_n 1, 1) := by decide +kernel
theorem dX1_multiplyPolynomials_76 : decode cX1_multiplyPolynomials 76 = .ok (.getfield 69, 3) := by decide +kernel
theorem dX1_multiplyPolynomials_79 : decode cX1_multiplyPolynomials 79 = .ok (.iload 6, 2) := by decide +kernel
theorem dX1_multiplyPolynomials_81 : decode cX1_multiplyPolynomials 81 = .ok (.laload, 1) := by decide +kernel
theorem dX1_multiplyPolynomials_82 : decode cX1_multiplyPolynomials 82 = .ok (.aload_n 2, 1) := by decide +kernel
theorem dX1_multiplyPolynomials_83 : decode cX1_multiplyPolynomials 83 = .ok (.getfield 69, 3) := by decide +kernel
theorem dX1_multiplyPolynomials_86 : decode cX1_multiplyPolynomials 86 = .ok (.iload_n 3, 1) := by decide +kernel
theorem dX1_multiplyPolynomials_87 : decode cX1_multiplyPolynomials 87 = .ok (.iload 6, 2) := by decide +kernel
theorem dX1_multiplyPolynomials_89 : decode cX1_multiplyPolynomials 89 = .ok (.isub, 1) := by decide +kernel
theorem dX1_multiplyPolynomials_90 : decode cX1_multiplyPolynomials 90 = .ok (.laload, 1) := by decide +kernel
theorem dX1_multiplyPolynomials_91 : decode cX1_multiplyPolynomials 91 = .ok (.lmul, 1) := by decide +kernel
theorem dX1_multiplyPolynomials_92 : decode cX1_multiplyPolynomials 92 = .ok (.lsub, 1) := by decide +kernel
theorem dX1_multiplyPolynomials_93 : decode cX1_multiplyPolynomials 93 = .ok (.lstore 4, 2) := by decide +kernel
theorem dX1_multiplyPolynomials_95 : decode cX1_multiplyPolynomials 95 = .ok (.iinc 6 1, 3) := by decide +kernel
theorem dX1_multiplyPolynomials_98 : decode cX1_multiplyPolynomials 98 = .ok (.goto (-38), 3) := by decide +kernel
theorem dX1_multiplyPolynomials_101 : decode cX1_multiplyPolynomials 101 = .ok (.lload 4, 2) := by decide +kernel
theorem dX1_multiplyPolynomials_103 : decode cX1_multiplyPolynomials 103 = .ok (.invokestatic 72, 3) := by decide +kernel
theorem dX1_multiplyPolynomials_106 : decode cX1_multiplyPolynomials 106 = .ok (.ldc2_w 76, 3) := by decide +kernel
theorem dX1_multiplyPolynomials_109 : decode cX1_multiplyPolynomials 109 = .ok (.lcmp, 1) := by decide +kernel
theorem dX1_multiplyPolynomials_110 : decode cX1_multiplyPolynomials 110 = .ok (.ifCond .le 5, 3) := by decide +kernel
theorem dX1_multiplyPolynomials_113 : decode cX1_multiplyPolynomials 113 = .ok (.iconst 0, 1) := by decide +kernel
theorem dX1_multiplyPolynomials_114 : decode cX1_multiplyPolynomials 114 = .ok (.ireturn, 1) := by decide +kernel
theorem dX1_multiplyPolynomials_115 : decode cX1_multiplyPolynomials 115 = .ok (.aload_n 0, 1) := by decide +kernel
theorem dX1_multiplyPolynomials_116 : decode cX1_multiplyPolynomials 116 = .ok (.getfield 12, 3) := by decide +kernel
theorem dX1_multiplyPolynomials_119 : decode cX1_multiplyPolynomials 119 = .ok (.getfield 69, 3) := by decide +kernel
theorem dX1_multiplyPolynomials_122 : decode cX1_multiplyPolynomials 122 = .ok (.iload_n 3, 1) := by decide +kernel
theorem dX1_multiplyPolynomials_123 : decode cX1_multiplyPolynomials 123 = .ok (.lload 4, 2) := by decide +kernel
theorem dX1_multiplyPolynomials_125 : decode cX1_multiplyPolynomials 125 = .ok (.lastore, 1) := by decide +kernel
theorem dX1_multiplyPolynomials_126 : decode cX1_multiplyPolynomials 126 = .ok (.iinc 3 1, 3) := by decide +kernel
theorem dX1_multiplyPolynomials_129 : decode cX1_multiplyPolynomials 129 = .ok (.goto (-95), 3) := by decide +kernel
theorem dX1_multiplyPolynomials_132 : decode cX1_multiplyPolynomials 132 = .ok (.iconst 1, 1) := by decide +kernel
theorem dX1_multiplyPolynomials_133 : decode cX1_multiplyPolynomials 133 = .ok (.ireturn, 1) := by decide +kernel
theorem dX1_multiplyRoots_0 : decode cX1_multiplyRoots 0 = .ok (.aload_n 1, 1) := by decide +kernel
theorem dX1_multiplyRoots_1 : decode cX1_multiplyRoots 1 = .ok (.getfield 56, 3) := by decide +kernel
theorem dX1_multiplyRoots_4 : decode cX1_multiplyRoots 4 = .ok (.aload_n 2, 1) := by decide +kernel
theorem dX1_multiplyRoots_5 : decode cX1_multiplyRoots 5 = .ok (.getfield 56, 3) := by decide +kernel
theorem dX1_multiplyRoots_8 : decode cX1_multiplyRoots 8 = .ok (.imul, 1) := by decide +kernel
theorem dX1_multiplyRoots_9 : decode cX1_multiplyRoots 9 = .ok (.istore_n 3, 1) := by decide +kernel
theorem dX1_multiplyRoots_10 : decode cX1_multiplyRoots 10 = .ok (.iload_n 3, 1) := by decide +kernel
theorem dX1_multiplyRoots_11 : decode cX1_multiplyRoots 11 = .ok (.bipush 6, 2) := by decide +kernel
theorem dX1_multiplyRoots_13 : decode cX1_multiplyRoots 13 = .ok (.if_icmp .gt 27, 3) := by decide +kernel
theorem dX1_multiplyRoots_16 : decode cX1_multiplyRoots 16 = .ok (.aload_n 1, 1) := by decide +kernel
theorem dX1_multiplyRoots_17 : decode cX1_multiplyRoots 17 = .ok (.aload_n 0, 1) := by decide +kernel
theorem dX1_multiplyRoots_18 : decode cX1_multiplyRoots 18 = .ok (.getfield 28, 3) := by decide +kernel
theorem dX1_multiplyRoots_21 : decode cX1_multiplyRoots 21 = .ok (.iload_n 3, 1) := by decide +kernel
theorem dX1_multiplyRoots_22 : decode cX1_multiplyRoots 22 = .ok (.invokestatic 78, 3) := by decide +kernel
theorem dX1_multiplyRoots_25 : decode cX1_multiplyRoots 25 = .ok (.ifCond .eq 15, 3) := by decide +kernel
theorem dX1_multiplyRoots_28 : decode cX1_multiplyRoots 28 = .ok (.aload_n 2, 1) := by decide +kernel
theorem dX1_multiplyRoots_29 : decode cX1_multiplyRoots 29 = .ok (.aload_n 0, 1) := by decide +kernel
theorem dX1_multiplyRoots_30 : decode cX1_multiplyRoots 30 = .ok (.getfield 31, 3) := by decide +kernel
theorem dX1_multiplyRoots_33 : decode cX1_multiplyRoots 33 = .ok (.iload_n 3, 1) := by decide +kernel
theorem dX1_multiplyRoots_34 : decode cX1_multiplyRoots 34 = .ok (.invokestatic 78, 3) := by decide +kernel
theorem dX1_multiplyRoots_37 : decode cX1_multiplyRoots 37 = .ok (.ifCond .ne 5, 3) := by decide +kernel
theorem dX1_multiplyRoots_40 : decode cX1_multiplyRoots 40 = .ok (.iconst 0, 1) := by decide +kernel
theorem dX1_multiplyRoots_41 : decode cX1_multiplyRoots 41 = .ok (.ireturn, 1) := by decide +kernel
theorem dX1_multiplyRoots_42 : decode cX1_multiplyRoots 42 = .ok (.iconst 1, 1) := by decide +kernel
theorem dX1_multiplyRoots_43 : decode cX1_multiplyRoots 43 = .ok (.istore 4, 2) := by decide +kernel
theorem dX1_multiplyRoots_45 : decode cX1_multiplyRoots 45 = .ok (.iload 4, 2) := by decide +kernel
theorem dX1_multiplyRoots_47 : decode cX1_multiplyRoots 47 = .ok (.iload_n 3, 1) := by decide +kernel
theorem dX1_multiplyRoots_48 : decode cX1_multiplyRoots 48 = .ok (.if_icmp .gt 45, 3) := by decide +kernel
theorem dX1_multiplyRoots_51 : decode cX1_multiplyRoots 51 = .ok (.aload_n 0, 1) := by decide +kernel
theorem dX1_multiplyRoots_52 : decode cX1_multiplyRoots 52 = .ok (.getfield 28, 3) := by decide +kernel
theorem dX1_multiplyRoots_55 : decode cX1_multiplyRoots 55 = .ok (.iload 4, 2) := by decide +kernel
theorem dX1_multiplyRoots_57 : decode cX1_multiplyRoots 57 = .ok (.dup2, 1) := by decide +kernel
theorem dX1_multiplyRoots_58 : decode cX1_multiplyRoots 58 = .ok (.laload, 1) := by decide +kernel
theorem dX1_multiplyRoots_59 : decode cX1_multiplyRoots 59 = .ok (.aload_n 0, 1) := by decide +kernel
theorem dX1_multiplyRoots_60 : decode cX1_multiplyRoots 60 = .ok (.getfield 31, 3) := by decide +kernel
theorem dX1_multiplyRoots_63 : decode cX1_multiplyRoots 63 = .ok (.iload 4, 2) := by decide +kernel
theorem dX1_multiplyRoots_65 : decode cX1_multiplyRoots 65 = .ok (.laload, 1) := by decide +kernel
theorem dX1_multiplyRoots_66 : decode cX1_multiplyRoots 66 = .ok (.lmul, 1) := by decide +kernel
theorem dX1_multiplyRoots_67 : decode cX1_multiplyRoots 67 = .ok (.lastore, 1) := by decide +kernel
theorem dX1_multiplyRoots_68 : decode cX1_multiplyRoots 68 = .ok (.aload_n 0, 1) := by decide +kernel
theorem dX1_multiplyRoots_69 : decode cX1_multiplyRoots 69 = .ok (.getfield 28, 3) := by decide +kernel
theorem dX1_multiplyRoots_72 : decode cX1_multiplyRoots 72 = .ok (.iload 4, 2) := by decide +kernel
theorem dX1_multiplyRoots_74 : decode cX1_multiplyRoots 74 = .ok (.laload, 1) := by decide +kernel
theorem dX1_multiplyRoots_75 : decode cX1_multiplyRoots 75 = .ok (.invokestatic 72, 3) := by decide +kernel
theorem dX1_multiplyRoots_78 : decode cX1_multiplyRoots 78 = .ok (.ldc2_w 82, 3) := by decide +kernel
theorem dX1_multiplyRoots_81 : decode cX1_multiplyRoots 81 = .ok (.lcmp, 1) := by decide +kernel
theorem dX1_multiplyRoots_82 : decode cX1_multiplyRoots 82 = .ok (.ifCond .le 5, 3) := by decide +kernel
theorem dX1_multiplyRoots_85 : decode cX1_multiplyRoots 85 = .ok (.iconst 0, 1) := by decide +kernel
theorem dX1_multiplyRoots_86 : decode cX1_multiplyRoots 86 = .ok (.ireturn, 1) := by decide +kernel
theorem dX1_multiplyRoots_87 : decode cX1_multiplyRoots 87 = .ok (.iinc 4 1, 3) := by decide +kernel
theorem dX1_multiplyRoots_90 : decode cX1_multiplyRoots 90 = .ok (.goto (-45), 3) := by decide +kernel
theorem dX1_multiplyRoots_93 : decode cX1_multiplyRoots 93 = .ok (.aload_n 0, 1) := by decide +kernel
theorem dX1_multiplyRoots_94 : decode cX1_multiplyRoots 94 = .ok (.iload_n 3, 1) := by decide +kernel
theorem dX1_multiplyRoots_95 : decode cX1_multiplyRoots 95 = .ok (.invokevirtual 84, 3) := by decide +kernel
theorem dX1_multiplyRoots_98 : decode cX1_multiplyRoots 98 = .ok (.ireturn, 1) := by decide +kernel
theorem dX1_raiseRoots_0 : decode cX1_raiseRoots 0 = .ok (.aload_n 1, 1) := by decide +kernel
theorem dX1_raiseRoots_1 : decode cX1_raiseRoots 1 = .ok (.aload_n 0, 1) := by decide +kernel
theorem dX1_raiseRoots_2 : decode cX1_raiseRoots 2 = .ok (.getfield 28, 3) := by decide +kernel
theorem dX1_raiseRoots_5 : decode cX1_raiseRoots 5 = .ok (.iload_n 2, 1) := by decide +kernel
theorem dX1_raiseRoots_6 : decode cX1_raiseRoots 6 = .ok (.aload_n 1, 1) := by decide +kernel
theorem dX1_raiseRoots_7 : decode cX1_raiseRoots 7 = .ok (.getfield 56, 3) := by decide +kernel
theorem dX1_raiseRoots_10 : decode cX1_raiseRoots 10 = .ok (.imul, 1) := by decide +kernel
theorem dX1_raiseRoots_11 : decode cX1_raiseRoots 11 = .ok (.invokestatic 78, 3) := by decide +kernel
theorem dX1_raiseRoots_14 : decode cX1_raiseRoots 14 = .ok (.ifCond .ne 5, 3) := by decide +kernel
theorem dX1_raiseRoots_17 : decode cX1_raiseRoots 17 = .ok (.iconst 0, 1) := by decide +kernel
theorem dX1_raiseRoots_18 : decode cX1_raiseRoots 18 = .ok (.ireturn, 1) := by decide +kernel
theorem dX1_raiseRoots_19 : decode cX1_raiseRoots 19 = .ok (.iconst 1, 1) := by decide +kernel
theorem dX1_raiseRoots_20 : decode cX1_raiseRoots 20 = .ok (.istore_n 3, 1) := by decide +kernel
theorem dX1_raiseRoots_21 : decode cX1_raiseRoots 21 = .ok (.iload_n 3, 1) := by decide +kernel
theorem dX1_raiseRoots_22 : decode cX1_raiseRoots 22 = .ok (.aload_n 1, 1) := by decide +kernel
theorem dX1_raiseRoots_23 : decode cX1_raiseRoots 23 = .ok (.getfield 56, 3) := by decide +kernel
theorem dX1_raiseRoots_26 : decode cX1_raiseRoots 26 = .ok (.if_icmp .gt 23, 3) := by decide +kernel
theorem dX1_raiseRoots_29 : decode cX1_raiseRoots 29 = .ok (.aload_n 0, 1) := by decide +kernel
theorem dX1_raiseRoots_30 : decode cX1_raiseRoots 30 = .ok (.getfield 28, 3) := by decide +kernel
theorem dX1_raiseRoots_33 : decode cX1_raiseRoots 33 = .ok (.iload_n 3, 1) := by decide +kernel
theorem dX1_raiseRoots_34 : decode cX1_raiseRoots 34 = .ok (.aload_n 0, 1) := by decide +kernel
theorem dX1_raiseRoots_35 : decode cX1_raiseRoots 35 = .ok (.getfield 28, 3) := by decide +kernel
theorem dX1_raiseRoots_38 : decode cX1_raiseRoots 38 = .ok (.iload_n 2, 1) := by decide +kernel
theorem dX1_raiseRoots_39 : decode cX1_raiseRoots 39 = .ok (.iload_n 3, 1) := by decide +kernel
theorem dX1_raiseRoots_40 : decode cX1_raiseRoots 40 = .ok (.imul, 1) := by decide +kernel
theorem dX1_raiseRoots_41 : decode cX1_raiseRoots 41 = .ok (.laload, 1) := by decide +kernel
theorem dX1_raiseRoots_42 : decode cX1_raiseRoots 42 = .ok (.lastore, 1) := by decide +kernel
theorem dX1_raiseRoots_43 : decode cX1_raiseRoots 43 = .ok (.iinc 3 1, 3) := by decide +kernel
theorem dX1_raiseRoots_46 : decode cX1_raiseRoots 46 = .ok (.goto (-25), 3) := by decide +kernel
theorem dX1_raiseRoots_49 : decode cX1_raiseRoots 49 = .ok (.aload_n 0, 1) := by decide +kernel
theorem dX1_raiseRoots_50 : decode cX1_raiseRoots 50 = .ok (.aload_n 1, 1) := by decide +kernel
theorem dX1_raiseRoots_51 : decode cX1_raiseRoots 51 = .ok (.getfield 56, 3) := by decide +kernel
theorem dX1_raiseRoots_54 : decode cX1_raiseRoots 54 = .ok (.invokevirtual 84, 3) := by decide +kernel
theorem dX1_raiseRoots_57 : decode cX1_raiseRoots 57 = .ok (.ireturn, 1) := by decide +kernel
theorem dX1_sumPowers_0 : decode cX1_sumPowers 0 = .ok (.iconst 1, 1) := by decide +kernel
theorem dX1_sumPowers_1 : decode cX1_sumPowers 1 = .ok (.istore_n 3, 1) := by decide +kernel
theorem dX1_sumPowers_2 : decode cX1_sumPowers 2 = .ok (.iload_n 3, 1) := by decide +kernel
theorem dX1_sumPowers_3 : decode cX1_sumPowers 3 = .ok (.iload_n 2, 1) := by decide +kernel
theorem dX1_sumPowers_4 : decode cX1_sumPowers 4 = .ok (.if_icmp .gt 94, 3) := by decide +kernel
theorem dX1_sumPowers_7 : decode cX1_sumPowers 7 = .ok (.iload_n 3, 1) := by decide +kernel
theorem dX1_sumPowers_8 : decode cX1_sumPowers 8 = .ok (.aload_n 0, 1) := by decide +kernel
theorem dX1_sumPowers_9 : decode cX1_sumPowers 9 = .ok (.getfield 56, 3) := by decide +kernel
theorem dX1_sumPowers_12 : decode cX1_sumPowers 12 = .ok (.if_icmp .gt 15, 3) := by decide +kernel
theorem dX1_sumPowers_15 : decode cX1_sumPowers 15 = .ok (.iload_n 3, 1) := by decide +kernel
theorem dX1_sumPowers_16 : decode cX1_sumPowers 16 = .ok (.i2l, 1) := by decide +kernel
theorem dX1_sumPowers_17 : decode cX1_sumPowers 17 = .ok (.aload_n 0, 1) := by decide +kernel
theorem dX1_sumPowers_18 : decode cX1_sumPowers 18 = .ok (.getfield 69, 3) := by decide +kernel
theorem dX1_sumPowers_21 : decode cX1_sumPowers 21 = .ok (.iload_n 3, 1) := by decide +kernel
theorem dX1_sumPowers_22 : decode cX1_sumPowers 22 = .ok (.laload, 1) := by decide +kernel
theorem dX1_sumPowers_23 : decode cX1_sumPowers 23 = .ok (.lmul, 1) := by decide +kernel
theorem dX1_sumPowers_24 : decode cX1_sumPowers 24 = .ok (.goto 4, 3) := by decide +kernel
theorem dX1_sumPowers_27 : decode cX1_sumPowers 27 = .ok (.lconst 0, 1) := by decide +kernel
theorem dX1_sumPowers_28 : decode cX1_sumPowers 28 = .ok (.lstore 4, 2) := by decide +kernel
theorem dX1_sumPowers_30 : decode cX1_sumPowers 30 = .ok (.iconst 1, 1) := by decide +kernel
theorem dX1_sumPowers_31 : decode cX1_sumPowers 31 = .ok (.istore 6, 2) := by decide +kernel
theorem dX1_sumPowers_33 : decode cX1_sumPowers 33 = .ok (.iload 6, 2) := by decide +kernel
theorem dX1_sumPowers_35 : decode cX1_sumPowers 35 = .ok (.aload_n 0, 1) := by decide +kernel
theorem dX1_sumPowers_36 : decode cX1_sumPowers 36 = .ok (.getfield 56, 3) := by decide +kernel
theorem dX1_sumPowers_39 : decode cX1_sumPowers 39 = .ok (.if_icmp .gt 34, 3) := by decide +kernel
theorem dX1_sumPowers_42 : decode cX1_sumPowers 42 = .ok (.iload 6, 2) := by decide +kernel
theorem dX1_sumPowers_44 : decode cX1_sumPowers 44 = .ok (.iload_n 3, 1) := by decide +kernel
theorem dX1_sumPowers_45 : decode cX1_sumPowers 45 = .ok (.if_icmp .ge 28, 3) := by decide +kernel
theorem dX1_sumPowers_48 : decode cX1_sumPowers 48 = .ok (.lload 4, 2) := by decide +kernel
theorem dX1_sumPowers_50 : decode cX1_sumPowers 50 = .ok (.aload_n 0, 1) := by decide +kernel
theorem dX1_sumPowers_51 : decode cX1_sumPowers 51 = .ok (.getfield 69, 3) := by decide +kernel
theorem dX1_sumPowers_54 : decode cX1_sumPowers 54 = .ok (.iload 6, 2) := by decide +kernel
theorem dX1_sumPowers_56 : decode cX1_sumPowers 56 = .ok (.laload, 1) := by decide +kernel
theorem dX1_sumPowers_57 : decode cX1_sumPowers 57 = .ok (.aload_n 1, 1) := by decide +kernel
theorem dX1_sumPowers_58 : decode cX1_sumPowers 58 = .ok (.iload_n 3, 1) := by decide +kernel
theorem dX1_sumPowers_59 : decode cX1_sumPowers 59 = .ok (.iload 6, 2) := by decide +kernel
theorem dX1_sumPowers_61 : decode cX1_sumPowers 61 = .ok (.isub, 1) := by decide +kernel
theorem dX1_sumPowers_62 : decode cX1_sumPowers 62 = .ok (.laload, 1) := by decide +kernel
theorem dX1_sumPowers_63 : decode cX1_sumPowers 63 = .ok (.lmul, 1) := by decide +kernel
theorem dX1_sumPowers_64 : decode cX1_sumPowers 64 = .ok (.ladd, 1) := by decide +kernel
theorem dX1_sumPowers_65 : decode cX1_sumPowers 65 = .ok (.lstore 4, 2) := by decide +kernel
theorem dX1_sumPowers_67 : decode cX1_sumPowers 67 = .ok (.iinc 6 1, 3) := by decide +kernel
theorem dX1_sumPowers_70 : decode cX1_sumPowers 70 = .ok (.goto (-37), 3) := by decide +kernel
theorem dX1_sumPowers_73 : decode cX1_sumPowers 73 = .ok (.lload 4, 2) := by decide +kernel
theorem dX1_sumPowers_75 : decode cX1_sumPowers 75 = .ok (.invokestatic 72, 3) := by decide +kernel
theorem dX1_sumPowers_78 : decode cX1_sumPowers 78 = .ok (.ldc2_w 82, 3) := by decide +kernel
theorem dX1_sumPowers_81 : decode cX1_sumPowers 81 = .ok (.lcmp, 1) := by decide +kernel
theorem dX1_sumPowers_82 : decode cX1_sumPowers 82 = .ok (.ifCond .le 5, 3) := by decide +kernel
theorem dX1_sumPowers_85 : decode cX1_sumPowers 85 = .ok (.iconst 0, 1) := by decide +kernel
theorem dX1_sumPowers_86 : decode cX1_sumPowers 86 = .ok (.ireturn, 1) := by decide +kernel
theorem dX1_sumPowers_87 : decode cX1_sumPowers 87 = .ok (.aload_n 1, 1) := by decide +kernel
theorem dX1_sumPowers_88 : decode cX1_sumPowers 88 = .ok (.iload_n 3, 1) := by decide +kernel
theorem dX1_sumPowers_89 : decode cX1_sumPowers 89 = .ok (.lload 4, 2) := by decide +kernel
theorem dX1_sumPowers_91 : decode cX1_sumPowers 91 = .ok (.lastore, 1) := by decide +kernel
theorem dX1_sumPowers_92 : decode cX1_sumPowers 92 = .ok (.iinc 3 1, 3) := by decide +kernel
theorem dX1_sumPowers_95 : decode cX1_sumPowers 95 = .ok (.goto (-93), 3) := by decide +kernel
theorem dX1_sumPowers_98 : decode cX1_sumPowers 98 = .ok (.iconst 1, 1) := by decide +kernel
theorem dX1_sumPowers_99 : decode cX1_sumPowers 99 = .ok (.ireturn, 1) := by decide +kernel
theorem dX1_lawBySums_0 : decode cX1_lawBySums 0 = .ok (.aload_n 0, 1) := by decide +kernel
theorem dX1_lawBySums_1 : decode cX1_lawBySums 1 = .ok (.getfield 12, 3) := by decide +kernel
theorem dX1_lawBySums_4 : decode cX1_lawBySums 4 = .ok (.iload_n 1, 1) := by decide +kernel
theorem dX1_lawBySums_5 : decode cX1_lawBySums 5 = .ok (.putfield 56, 3) := by decide +kernel
theorem dX1_lawBySums_8 : decode cX1_lawBySums 8 = .ok (.iconst 1, 1) := by decide +kernel
theorem dX1_lawBySums_9 : decode cX1_lawBySums 9 = .ok (.istore_n 2, 1) := by decide +kernel
theorem dX1_lawBySums_10 : decode cX1_lawBySums 10 = .ok (.iload_n 2, 1) := by decide +kernel
theorem dX1_lawBySums_11 : decode cX1_lawBySums 11 = .ok (.iload_n 1, 1) := by decide +kernel
theorem dX1_lawBySums_12 : decode cX1_lawBySums 12 = .ok (.if_icmp .gt 85, 3) := by decide +kernel
theorem dX1_lawBySums_15 : decode cX1_lawBySums 15 = .ok (.aload_n 0, 1) := by decide +kernel
theorem dX1_lawBySums_16 : decode cX1_lawBySums 16 = .ok (.getfield 28, 3) := by decide +kernel
theorem dX1_lawBySums_19 : decode cX1_lawBySums 19 = .ok (.iload_n 2, 1) := by decide +kernel
theorem dX1_lawBySums_20 : decode cX1_lawBySums 20 = .ok (.laload, 1) := by decide +kernel
theorem dX1_lawBySums_21 : decode cX1_lawBySums 21 = .ok (.lstore_n 3, 1) := by decide +kernel
theorem dX1_lawBySums_22 : decode cX1_lawBySums 22 = .ok (.iconst 1, 1) := by decide +kernel
theorem dX1_lawBySums_23 : decode cX1_lawBySums 23 = .ok (.istore 5, 2) := by decide +kernel
theorem dX1_lawBySums_25 : decode cX1_lawBySums 25 = .ok (.iload 5, 2) := by decide +kernel
theorem dX1_lawBySums_27 : decode cX1_lawBySums 27 = .ok (.iload_n 2, 1) := by decide +kernel
theorem dX1_lawBySums_28 : decode cX1_lawBySums 28 = .ok (.if_icmp .ge 32, 3) := by decide +kernel
theorem dX1_lawBySums_31 : decode cX1_lawBySums 31 = .ok (.lload_n 3, 1) := by decide +kernel
theorem dX1_lawBySums_32 : decode cX1_lawBySums 32 = .ok (.aload_n 0, 1) := by decide +kernel
theorem dX1_lawBySums_33 : decode cX1_lawBySums 33 = .ok (.getfield 12, 3) := by decide +kernel
theorem dX1_lawBySums_36 : decode cX1_lawBySums 36 = .ok (.getfield 69, 3) := by decide +kernel
theorem dX1_lawBySums_39 : decode cX1_lawBySums 39 = .ok (.iload 5, 2) := by decide +kernel
theorem dX1_lawBySums_41 : decode cX1_lawBySums 41 = .ok (.laload, 1) := by decide +kernel
theorem dX1_lawBySums_42 : decode cX1_lawBySums 42 = .ok (.aload_n 0, 1) := by decide +kernel
theorem dX1_lawBySums_43 : decode cX1_lawBySums 43 = .ok (.getfield 28, 3) := by decide +kernel
theorem dX1_lawBySums_46 : decode cX1_lawBySums 46 = .ok (.iload_n 2, 1) := by decide +kernel
theorem dX1_lawBySums_47 : decode cX1_lawBySums 47 = .ok (.iload 5, 2) := by decide +kernel
theorem dX1_lawBySums_49 : decode cX1_lawBySums 49 = .ok (.isub, 1) := by decide +kernel
theorem dX1_lawBySums_50 : decode cX1_lawBySums 50 = .ok (.laload, 1) := by decide +kernel
theorem dX1_lawBySums_51 : decode cX1_lawBySums 51 = .ok (.lmul, 1) := by decide +kernel
theorem dX1_lawBySums_52 : decode cX1_lawBySums 52 = .ok (.lsub, 1) := by decide +kernel
theorem dX1_lawBySums_53 : decode cX1_lawBySums 53 = .ok (.lstore_n 3, 1) := by decide +kernel
theorem dX1_lawBySums_54 : decode cX1_lawBySums 54 = .ok (.iinc 5 1, 3) := by decide +kernel
theorem dX1_lawBySums_57 : decode cX1_lawBySums 57 = .ok (.goto (-32), 3) := by decide +kernel
theorem dX1_lawBySums_60 : decode cX1_lawBySums 60 = .ok (.lload_n 3, 1) := by decide +kernel
theorem dX1_lawBySums_61 : decode cX1_lawBySums 61 = .ok (.iload_n 2, 1) := by decide +kernel
theorem dX1_lawBySums_62 : decode cX1_lawBySums 62 = .ok (.i2l, 1) := by decide +kernel
theorem dX1_lawBySums_63 : decode cX1_lawBySums 63 = .ok (.ldiv, 1) := by decide +kernel
theorem dX1_lawBySums_64 : decode cX1_lawBySums 64 = .ok (.lstore 5, 2) := by decide +kernel
theorem dX1_lawBySums_66 : decode cX1_lawBySums 66 = .ok (.lload 5, 2) := by decide +kernel
theorem dX1_lawBySums_68 : decode cX1_lawBySums 68 = .ok (.invokestatic 72, 3) := by decide +kernel
theorem dX1_lawBySums_71 : decode cX1_lawBySums 71 = .ok (.ldc2_w 76, 3) := by decide +kernel
theorem dX1_lawBySums_74 : decode cX1_lawBySums 74 = .ok (.lcmp, 1) := by decide +kernel
theorem dX1_lawBySums_75 : decode cX1_lawBySums 75 = .ok (.ifCond .le 5, 3) := by decide +kernel
theorem dX1_lawBySums_78 : decode cX1_lawBySums 78 = .ok (.iconst 0, 1) := by decide +kernel
theorem dX1_lawBySums_79 : decode cX1_lawBySums 79 = .ok (.ireturn, 1) := by decide +kernel
theorem dX1_lawBySums_80 : decode cX1_lawBySums 80 = .ok (.aload_n 0, 1) := by decide +kernel
theorem dX1_lawBySums_81 : decode cX1_lawBySums 81 = .ok (.getfield 12, 3) := by decide +kernel
theorem dX1_lawBySums_84 : decode cX1_lawBySums 84 = .ok (.getfield 69, 3) := by decide +kernel
theorem dX1_lawBySums_87 : decode cX1_lawBySums 87 = .ok (.iload_n 2, 1) := by decide +kernel
theorem dX1_lawBySums_88 : decode cX1_lawBySums 88 = .ok (.lload 5, 2) := by decide +kernel
theorem dX1_lawBySums_90 : decode cX1_lawBySums 90 = .ok (.lastore, 1) := by decide +kernel
theorem dX1_lawBySums_91 : decode cX1_lawBySums 91 = .ok (.iinc 2 1, 3) := by decide +kernel
theorem dX1_lawBySums_94 : decode cX1_lawBySums 94 = .ok (.goto (-84), 3) := by decide +kernel
theorem dX1_lawBySums_97 : decode cX1_lawBySums 97 = .ok (.iconst 1, 1) := by decide +kernel
theorem dX1_lawBySums_98 : decode cX1_lawBySums 98 = .ok (.ireturn, 1) := by decide +kernel
theorem dX1_makeStarts_0 : decode cX1_makeStarts 0 = .ok (.aload_n 0, 1) := by decide +kernel
theorem dX1_makeStarts_1 : decode cX1_makeStarts 1 = .ok (.iload_n 1, 1) := by decide +kernel
theorem dX1_makeStarts_2 : decode cX1_makeStarts 2 = .ok (.iload 4, 2) := by decide +kernel
theorem dX1_makeStarts_4 : decode cX1_makeStarts 4 = .ok (.invokevirtual 88, 3) := by decide +kernel
theorem dX1_makeStarts_7 : decode cX1_makeStarts 7 = .ok (.istore 5, 2) := by decide +kernel
theorem dX1_makeStarts_9 : decode cX1_makeStarts 9 = .ok (.aload_n 2, 1) := by decide +kernel
theorem dX1_makeStarts_10 : decode cX1_makeStarts 10 = .ok (.aload_n 0, 1) := by decide +kernel
theorem dX1_makeStarts_11 : decode cX1_makeStarts 11 = .ok (.getfield 21, 3) := by decide +kernel
theorem dX1_makeStarts_14 : decode cX1_makeStarts 14 = .ok (.iload 5, 2) := by decide +kernel
theorem dX1_makeStarts_16 : decode cX1_makeStarts 16 = .ok (.invokevirtual 91, 3) := by decide +kernel
theorem dX1_makeStarts_19 : decode cX1_makeStarts 19 = .ok (.iload 5, 2) := by decide +kernel
theorem dX1_makeStarts_21 : decode cX1_makeStarts 21 = .ok (.if_icmp .gt 5, 3) := by decide +kernel
theorem dX1_makeStarts_24 : decode cX1_makeStarts 24 = .ok (.iconst 0, 1) := by decide +kernel
theorem dX1_makeStarts_25 : decode cX1_makeStarts 25 = .ok (.ireturn, 1) := by decide +kernel
theorem dX1_makeStarts_26 : decode cX1_makeStarts 26 = .ok (.iload_n 1, 1) := by decide +kernel
theorem dX1_makeStarts_27 : decode cX1_makeStarts 27 = .ok (.iconst 3, 1) := by decide +kernel
theorem dX1_makeStarts_28 : decode cX1_makeStarts 28 = .ok (.if_icmp .gt 32, 3) := by decide +kernel
theorem dX1_makeStarts_31 : decode cX1_makeStarts 31 = .ok (.aload_n 3, 1) := by decide +kernel
theorem dX1_makeStarts_32 : decode cX1_makeStarts 32 = .ok (.aload_n 0, 1) := by decide +kernel
theorem dX1_makeStarts_33 : decode cX1_makeStarts 33 = .ok (.getfield 25, 3) := by decide +kernel
theorem dX1_makeStarts_36 : decode cX1_makeStarts 36 = .ok (.aload_n 0, 1) := by decide +kernel
theorem dX1_makeStarts_37 : decode cX1_makeStarts 37 = .ok (.getfield 12, 3) := by decide +kernel
theorem dX1_makeStarts_40 : decode cX1_makeStarts 40 = .ok (.getfield 56, 3) := by decide +kernel
theorem dX1_makeStarts_43 : decode cX1_makeStarts 43 = .ok (.iconst 1, 1) := by decide +kernel
theorem dX1_makeStarts_44 : decode cX1_makeStarts 44 = .ok (.isub, 1) := by decide +kernel
theorem dX1_makeStarts_45 : decode cX1_makeStarts 45 = .ok (.invokevirtual 91, 3) := by decide +kernel
theorem dX1_makeStarts_48 : decode cX1_makeStarts 48 = .ok (.aload_n 0, 1) := by decide +kernel
theorem dX1_makeStarts_49 : decode cX1_makeStarts 49 = .ok (.getfield 12, 3) := by decide +kernel
theorem dX1_makeStarts_52 : decode cX1_makeStarts 52 = .ok (.getfield 56, 3) := by decide +kernel
theorem dX1_makeStarts_55 : decode cX1_makeStarts 55 = .ok (.if_icmp .ge 5, 3) := by decide +kernel
theorem dX1_makeStarts_58 : decode cX1_makeStarts 58 = .ok (.iconst 0, 1) := by decide +kernel
theorem dX1_makeStarts_59 : decode cX1_makeStarts 59 = .ok (.ireturn, 1) := by decide +kernel
theorem dX1_makeStarts_60 : decode cX1_makeStarts 60 = .ok (.iconst 0, 1) := by decide +kernel
theorem dX1_makeStarts_61 : decode cX1_makeStarts 61 = .ok (.istore 6, 2) := by decide +kernel
theorem dX1_makeStarts_63 : decode cX1_makeStarts 63 = .ok (.iload 6, 2) := by decide +kernel
theorem dX1_makeStarts_65 : decode cX1_makeStarts 65 = .ok (.aload_n 0, 1) := by decide +kernel
theorem dX1_makeStarts_66 : decode cX1_makeStarts 66 = .ok (.getfield 12, 3) := by decide +kernel
theorem dX1_makeStarts_69 : decode cX1_makeStarts 69 = .ok (.getfield 56, 3) := by decide +kernel
theorem dX1_makeStarts_72 : decode cX1_makeStarts 72 = .ok (.if_icmp .ge 46, 3) := by decide +kernel
theorem dX1_makeStarts_75 : decode cX1_makeStarts 75 = .ok (.aload_n 0, 1) := by decide +kernel
theorem dX1_makeStarts_76 : decode cX1_makeStarts 76 = .ok (.iload_n 1, 1) := by decide +kernel
theorem dX1_makeStarts_77 : decode cX1_makeStarts 77 = .ok (.iload 6, 2) := by decide +kernel
theorem dX1_makeStarts_79 : decode cX1_makeStarts 79 = .ok (.iload 4, 2) := by decide +kernel
theorem dX1_makeStarts_81 : decode cX1_makeStarts 81 = .ok (.invokevirtual 95, 3) := by decide +kernel
theorem dX1_makeStarts_84 : decode cX1_makeStarts 84 = .ok (.lstore 7, 2) := by decide +kernel
theorem dX1_makeStarts_86 : decode cX1_makeStarts 86 = .ok (.lload 7, 2) := by decide +kernel
theorem dX1_makeStarts_88 : decode cX1_makeStarts 88 = .ok (.invokestatic 72, 3) := by decide +kernel
theorem dX1_makeStarts_91 : decode cX1_makeStarts 91 = .ok (.ldc2_w 99, 3) := by decide +kernel
theorem dX1_makeStarts_94 : decode cX1_makeStarts 94 = .ok (.lcmp, 1) := by decide +kernel
theorem dX1_makeStarts_95 : decode cX1_makeStarts 95 = .ok (.ifCond .le 5, 3) := by decide +kernel
theorem dX1_makeStarts_98 : decode cX1_makeStarts 98 = .ok (.iconst 0, 1) := by decide +kernel
theorem dX1_makeStarts_99 : decode cX1_makeStarts 99 = .ok (.ireturn, 1) := by decide +kernel
theorem dX1_makeStarts_100 : decode cX1_makeStarts 100 = .ok (.aload_n 0, 1) := by decide +kernel
theorem dX1_makeStarts_101 : decode cX1_makeStarts 101 = .ok (.getfield 12, 3) := by decide +kernel
theorem dX1_makeStarts_104 : decode cX1_makeStarts 104 = .ok (.getfield 101, 3) := by decide +kernel
theorem dX1_makeStarts_107 : decode cX1_makeStarts 107 = .ok (.iload 6, 2) := by decide +kernel
theorem dX1_makeStarts_109 : decode cX1_makeStarts 109 = .ok (.lload 7, 2) := by decide +kernel
theorem dX1_makeStarts_111 : decode cX1_makeStarts 111 = .ok (.lastore, 1) := by decide +kernel
theorem dX1_makeStarts_112 : decode cX1_makeStarts 112 = .ok (.iinc 6 1, 3) := by decide +kernel
theorem dX1_makeStarts_115 : decode cX1_makeStarts 115 = .ok (.goto (-52), 3) := by decide +kernel
theorem dX1_makeStarts_118 : decode cX1_makeStarts 118 = .ok (.iconst 1, 1) := by decide +kernel
theorem dX1_makeStarts_119 : decode cX1_makeStarts 119 = .ok (.ireturn, 1) := by decide +kernel
theorem dX1_lastPlaceOfX_0 : decode cX1_lastPlaceOfX 0 = .ok (.aload_n 0, 1) := by decide +kernel
theorem dX1_lastPlaceOfX_1 : decode cX1_lastPlaceOfX 1 = .ok (.getfield 12, 3) := by decide +kernel
theorem dX1_lastPlaceOfX_4 : decode cX1_lastPlaceOfX 4 = .ok (.getfield 56, 3) := by decide +kernel
theorem dX1_lastPlaceOfX_7 : decode cX1_lastPlaceOfX 7 = .ok (.iconst 1, 1) := by decide +kernel
theorem dX1_lastPlaceOfX_8 : decode cX1_lastPlaceOfX 8 = .ok (.isub, 1) := by decide +kernel
theorem dX1_lastPlaceOfX_9 : decode cX1_lastPlaceOfX 9 = .ok (.istore_n 3, 1) := by decide +kernel
theorem dX1_lastPlaceOfX_10 : decode cX1_lastPlaceOfX 10 = .ok (.iload_n 1, 1) := by decide +kernel
theorem dX1_lastPlaceOfX_11 : decode cX1_lastPlaceOfX 11 = .ok (.iconst 4, 1) := by decide +kernel
theorem dX1_lastPlaceOfX_12 : decode cX1_lastPlaceOfX 12 = .ok (.if_icmp .ne 7, 3) := by decide +kernel
theorem dX1_lastPlaceOfX_15 : decode cX1_lastPlaceOfX 15 = .ok (.iload_n 2, 1) := by decide +kernel
theorem dX1_lastPlaceOfX_16 : decode cX1_lastPlaceOfX 16 = .ok (.iload_n 3, 1) := by decide +kernel
theorem dX1_lastPlaceOfX_17 : decode cX1_lastPlaceOfX 17 = .ok (.imul, 1) := by decide +kernel
theorem dX1_lastPlaceOfX_18 : decode cX1_lastPlaceOfX 18 = .ok (.ireturn, 1) := by decide +kernel
theorem dX1_lastPlaceOfX_19 : decode cX1_lastPlaceOfX 19 = .ok (.iload_n 1, 1) := by decide +kernel
theorem dX1_lastPlaceOfX_20 : decode cX1_lastPlaceOfX 20 = .ok (.bipush 6, 2) := by decide +kernel
theorem dX1_lastPlaceOfX_22 : decode cX1_lastPlaceOfX 22 = .ok (.if_icmp .ne 9, 3) := by decide +kernel
theorem dX1_lastPlaceOfX_25 : decode cX1_lastPlaceOfX 25 = .ok (.iload_n 2, 1) := by decide +kernel
theorem dX1_lastPlaceOfX_26 : decode cX1_lastPlaceOfX 26 = .ok (.iload_n 3, 1) := by decide +kernel
theorem dX1_lastPlaceOfX_27 : decode cX1_lastPlaceOfX 27 = .ok (.iadd, 1) := by decide +kernel
theorem dX1_lastPlaceOfX_28 : decode cX1_lastPlaceOfX 28 = .ok (.goto 4, 3) := by decide +kernel
theorem dX1_lastPlaceOfX_31 : decode cX1_lastPlaceOfX 31 = .ok (.iload_n 3, 1) := by decide +kernel
theorem dX1_lastPlaceOfX_32 : decode cX1_lastPlaceOfX 32 = .ok (.ireturn, 1) := by decide +kernel
theorem dX1_numberMade_0 : decode cX1_numberMade 0 = .ok (.iload_n 1, 1) := by decide +kernel
theorem dX1_numberMade_1 : decode cX1_numberMade 1 = .ok (.tableswitch 143 0 6 #[43, 57, 71, 87, 93, 102, 134], 43) := by decide +kernel
theorem dX1_numberMade_44 : decode cX1_numberMade 44 = .ok (.aload_n 0, 1) := by decide +kernel
theorem dX1_numberMade_45 : decode cX1_numberMade 45 = .ok (.getfield 21, 3) := by decide +kernel
theorem dX1_numberMade_48 : decode cX1_numberMade 48 = .ok (.iload_n 2, 1) := by decide +kernel
theorem dX1_numberMade_49 : decode cX1_numberMade 49 = .ok (.laload, 1) := by decide +kernel
theorem dX1_numberMade_50 : decode cX1_numberMade 50 = .ok (.aload_n 0, 1) := by decide +kernel
theorem dX1_numberMade_51 : decode cX1_numberMade 51 = .ok (.getfield 25, 3) := by decide +kernel
theorem dX1_numberMade_54 : decode cX1_numberMade 54 = .ok (.iload_n 2, 1) := by decide +kernel
theorem dX1_numberMade_55 : decode cX1_numberMade 55 = .ok (.laload, 1) := by decide +kernel
theorem dX1_numberMade_56 : decode cX1_numberMade 56 = .ok (.ladd, 1) := by decide +kernel
theorem dX1_numberMade_57 : decode cX1_numberMade 57 = .ok (.lreturn, 1) := by decide +kernel
theorem dX1_numberMade_58 : decode cX1_numberMade 58 = .ok (.aload_n 0, 1) := by decide +kernel
theorem dX1_numberMade_59 : decode cX1_numberMade 59 = .ok (.getfield 21, 3) := by decide +kernel
theorem dX1_numberMade_62 : decode cX1_numberMade 62 = .ok (.iload_n 2, 1) := by decide +kernel
theorem dX1_numberMade_63 : decode cX1_numberMade 63 = .ok (.laload, 1) := by decide +kernel
theorem dX1_numberMade_64 : decode cX1_numberMade 64 = .ok (.aload_n 0, 1) := by decide +kernel
theorem dX1_numberMade_65 : decode cX1_numberMade 65 = .ok (.getfield 25, 3) := by decide +kernel
theorem dX1_numberMade_68 : decode cX1_numberMade 68 = .ok (.iload_n 2, 1) := by decide +kernel
theorem dX1_numberMade_69 : decode cX1_numberMade 69 = .ok (.laload, 1) := by decide +kernel
theorem dX1_numberMade_70 : decode cX1_numberMade 70 = .ok (.lsub, 1) := by decide +kernel
theorem dX1_numberMade_71 : decode cX1_numberMade 71 = .ok (.lreturn, 1) := by decide +kernel
theorem dX1_numberMade_72 : decode cX1_numberMade 72 = .ok (.aload_n 0, 1) := by decide +kernel
theorem dX1_numberMade_73 : decode cX1_numberMade 73 = .ok (.getfield 21, 3) := by decide +kernel
theorem dX1_numberMade_76 : decode cX1_numberMade 76 = .ok (.iload_n 2, 1) := by decide +kernel
theorem dX1_numberMade_77 : decode cX1_numberMade 77 = .ok (.laload, 1) := by decide +kernel
theorem dX1_numberMade_78 : decode cX1_numberMade 78 = .ok (.aload_n 0, 1) := by decide +kernel
theorem dX1_numberMade_79 : decode cX1_numberMade 79 = .ok (.getfield 25, 3) := by decide +kernel
theorem dX1_numberMade_82 : decode cX1_numberMade 82 = .ok (.iload_n 2, 1) := by decide +kernel
theorem dX1_numberMade_83 : decode cX1_numberMade 83 = .ok (.laload, 1) := by decide +kernel
theorem dX1_numberMade_84 : decode cX1_numberMade 84 = .ok (.invokestatic 104, 3) := by decide +kernel
theorem dX1_numberMade_87 : decode cX1_numberMade 87 = .ok (.lreturn, 1) := by decide +kernel
theorem dX1_numberMade_88 : decode cX1_numberMade 88 = .ok (.aload_n 0, 1) := by decide +kernel
theorem dX1_numberMade_89 : decode cX1_numberMade 89 = .ok (.iload_n 2, 1) := by decide +kernel
theorem dX1_numberMade_90 : decode cX1_numberMade 90 = .ok (.invokevirtual 108, 3) := by decide +kernel
theorem dX1_numberMade_93 : decode cX1_numberMade 93 = .ok (.lreturn, 1) := by decide +kernel
theorem dX1_numberMade_94 : decode cX1_numberMade 94 = .ok (.aload_n 0, 1) := by decide +kernel
theorem dX1_numberMade_95 : decode cX1_numberMade 95 = .ok (.getfield 21, 3) := by decide +kernel
theorem dX1_numberMade_98 : decode cX1_numberMade 98 = .ok (.iload_n 3, 1) := by decide +kernel
theorem dX1_numberMade_99 : decode cX1_numberMade 99 = .ok (.iload_n 2, 1) := by decide +kernel
theorem dX1_numberMade_100 : decode cX1_numberMade 100 = .ok (.imul, 1) := by decide +kernel
theorem dX1_numberMade_101 : decode cX1_numberMade 101 = .ok (.laload, 1) := by decide +kernel
theorem dX1_numberMade_102 : decode cX1_numberMade 102 = .ok (.lreturn, 1) := by decide +kernel
theorem dX1_numberMade_103 : decode cX1_numberMade 103 = .ok (.iload_n 2, 1) := by decide +kernel
theorem dX1_numberMade_104 : decode cX1_numberMade 104 = .ok (.ifCond .ne 12, 3) := by decide +kernel
theorem dX1_numberMade_107 : decode cX1_numberMade 107 = .ok (.aload_n 0, 1) := by decide +kernel
theorem dX1_numberMade_108 : decode cX1_numberMade 108 = .ok (.getfield 21, 3) := by decide +kernel
theorem dX1_numberMade_111 : decode cX1_numberMade 111 = .ok (.iconst 0, 1) := by decide +kernel
theorem dX1_numberMade_112 : decode cX1_numberMade 112 = .ok (.laload, 1) := by decide +kernel
theorem dX1_numberMade_113 : decode cX1_numberMade 113 = .ok (.goto 21, 3) := by decide +kernel
theorem dX1_numberMade_116 : decode cX1_numberMade 116 = .ok (.aload_n 0, 1) := by decide +kernel
theorem dX1_numberMade_117 : decode cX1_numberMade 117 = .ok (.getfield 12, 3) := by decide +kernel
theorem dX1_numberMade_120 : decode cX1_numberMade 120 = .ok (.getfield 101, 3) := by decide +kernel
theorem dX1_numberMade_123 : decode cX1_numberMade 123 = .ok (.iload_n 2, 1) := by decide +kernel
theorem dX1_numberMade_124 : decode cX1_numberMade 124 = .ok (.iconst 1, 1) := by decide +kernel
theorem dX1_numberMade_125 : decode cX1_numberMade 125 = .ok (.isub, 1) := by decide +kernel
theorem dX1_numberMade_126 : decode cX1_numberMade 126 = .ok (.laload, 1) := by decide +kernel
theorem dX1_numberMade_127 : decode cX1_numberMade 127 = .ok (.aload_n 0, 1) := by decide +kernel
theorem dX1_numberMade_128 : decode cX1_numberMade 128 = .ok (.getfield 21, 3) := by decide +kernel
theorem dX1_numberMade_131 : decode cX1_numberMade 131 = .ok (.iload_n 2, 1) := by decide +kernel
theorem dX1_numberMade_132 : decode cX1_numberMade 132 = .ok (.laload, 1) := by decide +kernel
theorem dX1_numberMade_133 : decode cX1_numberMade 133 = .ok (.ladd, 1) := by decide +kernel
theorem dX1_numberMade_134 : decode cX1_numberMade 134 = .ok (.lreturn, 1) := by decide +kernel
theorem dX1_numberMade_135 : decode cX1_numberMade 135 = .ok (.aload_n 0, 1) := by decide +kernel
theorem dX1_numberMade_136 : decode cX1_numberMade 136 = .ok (.getfield 21, 3) := by decide +kernel
theorem dX1_numberMade_139 : decode cX1_numberMade 139 = .ok (.iload_n 2, 1) := by decide +kernel
theorem dX1_numberMade_140 : decode cX1_numberMade 140 = .ok (.iload_n 3, 1) := by decide +kernel
theorem dX1_numberMade_141 : decode cX1_numberMade 141 = .ok (.iadd, 1) := by decide +kernel
theorem dX1_numberMade_142 : decode cX1_numberMade 142 = .ok (.laload, 1) := by decide +kernel
theorem dX1_numberMade_143 : decode cX1_numberMade 143 = .ok (.lreturn, 1) := by decide +kernel
theorem dX1_numberMade_144 : decode cX1_numberMade 144 = .ok (.iload_n 3, 1) := by decide +kernel
theorem dX1_numberMade_145 : decode cX1_numberMade 145 = .ok (.i2l, 1) := by decide +kernel
theorem dX1_numberMade_146 : decode cX1_numberMade 146 = .ok (.aload_n 0, 1) := by decide +kernel
theorem dX1_numberMade_147 : decode cX1_numberMade 147 = .ok (.getfield 21, 3) := by decide +kernel
theorem dX1_numberMade_150 : decode cX1_numberMade 150 = .ok (.iload_n 2, 1) := by decide +kernel
theorem dX1_numberMade_151 : decode cX1_numberMade 151 = .ok (.laload, 1) := by decide +kernel
theorem dX1_numberMade_152 : decode cX1_numberMade 152 = .ok (.lmul, 1) := by decide +kernel
theorem dX1_numberMade_153 : decode cX1_numberMade 153 = .ok (.lreturn, 1) := by decide +kernel
theorem dX1_fold_0 : decode cX1_fold 0 = .ok (.lconst 0, 1) := by decide +kernel
theorem dX1_fold_1 : decode cX1_fold 1 = .ok (.lstore_n 2, 1) := by decide +kernel
theorem dX1_fold_2 : decode cX1_fold 2 = .ok (.iconst 0, 1) := by decide +kernel
theorem dX1_fold_3 : decode cX1_fold 3 = .ok (.istore 4, 2) := by decide +kernel
theorem dX1_fold_5 : decode cX1_fold 5 = .ok (.iload 4, 2) := by decide +kernel
theorem dX1_fold_7 : decode cX1_fold 7 = .ok (.iload_n 1, 1) := by decide +kernel
theorem dX1_fold_8 : decode cX1_fold 8 = .ok (.if_icmp .gt 63, 3) := by decide +kernel
theorem dX1_fold_11 : decode cX1_fold 11 = .ok (.aload_n 0, 1) := by decide +kernel
theorem dX1_fold_12 : decode cX1_fold 12 = .ok (.getfield 21, 3) := by decide +kernel
theorem dX1_fold_15 : decode cX1_fold 15 = .ok (.iload 4, 2) := by decide +kernel
theorem dX1_fold_17 : decode cX1_fold 17 = .ok (.laload, 1) := by decide +kernel
theorem dX1_fold_18 : decode cX1_fold 18 = .ok (.aload_n 0, 1) := by decide +kernel
theorem dX1_fold_19 : decode cX1_fold 19 = .ok (.getfield 25, 3) := by decide +kernel
theorem dX1_fold_22 : decode cX1_fold 22 = .ok (.iload_n 1, 1) := by decide +kernel
theorem dX1_fold_23 : decode cX1_fold 23 = .ok (.iload 4, 2) := by decide +kernel
theorem dX1_fold_25 : decode cX1_fold 25 = .ok (.isub, 1) := by decide +kernel
theorem dX1_fold_26 : decode cX1_fold 26 = .ok (.laload, 1) := by decide +kernel
theorem dX1_fold_27 : decode cX1_fold 27 = .ok (.invokestatic 104, 3) := by decide +kernel
theorem dX1_fold_30 : decode cX1_fold 30 = .ok (.lstore 5, 2) := by decide +kernel
theorem dX1_fold_32 : decode cX1_fold 32 = .ok (.lload 5, 2) := by decide +kernel
theorem dX1_fold_34 : decode cX1_fold 34 = .ok (.ldc2_w 112, 3) := by decide +kernel
theorem dX1_fold_37 : decode cX1_fold 37 = .ok (.lcmp, 1) := by decide +kernel
theorem dX1_fold_38 : decode cX1_fold 38 = .ok (.ifCond .ne 7, 3) := by decide +kernel
theorem dX1_fold_41 : decode cX1_fold 41 = .ok (.ldc2_w 112, 3) := by decide +kernel
theorem dX1_fold_44 : decode cX1_fold 44 = .ok (.lreturn, 1) := by decide +kernel
theorem dX1_fold_45 : decode cX1_fold 45 = .ok (.lload_n 2, 1) := by decide +kernel
theorem dX1_fold_46 : decode cX1_fold 46 = .ok (.lload 5, 2) := by decide +kernel
theorem dX1_fold_48 : decode cX1_fold 48 = .ok (.ladd, 1) := by decide +kernel
theorem dX1_fold_49 : decode cX1_fold 49 = .ok (.lstore_n 2, 1) := by decide +kernel
theorem dX1_fold_50 : decode cX1_fold 50 = .ok (.lload_n 2, 1) := by decide +kernel
theorem dX1_fold_51 : decode cX1_fold 51 = .ok (.invokestatic 72, 3) := by decide +kernel
theorem dX1_fold_54 : decode cX1_fold 54 = .ok (.ldc2_w 114, 3) := by decide +kernel
theorem dX1_fold_57 : decode cX1_fold 57 = .ok (.lcmp, 1) := by decide +kernel
theorem dX1_fold_58 : decode cX1_fold 58 = .ok (.ifCond .le 7, 3) := by decide +kernel
theorem dX1_fold_61 : decode cX1_fold 61 = .ok (.ldc2_w 112, 3) := by decide +kernel
theorem dX1_fold_64 : decode cX1_fold 64 = .ok (.lreturn, 1) := by decide +kernel
theorem dX1_fold_65 : decode cX1_fold 65 = .ok (.iinc 4 1, 3) := by decide +kernel
theorem dX1_fold_68 : decode cX1_fold 68 = .ok (.goto (-63), 3) := by decide +kernel
theorem dX1_fold_71 : decode cX1_fold 71 = .ok (.lload_n 2, 1) := by decide +kernel
theorem dX1_fold_72 : decode cX1_fold 72 = .ok (.lreturn, 1) := by decide +kernel
theorem dX1_product_0 : decode cX1_product 0 = .ok (.lload_n 0, 1) := by decide +kernel
theorem dX1_product_1 : decode cX1_product 1 = .ok (.lconst 0, 1) := by decide +kernel
theorem dX1_product_2 : decode cX1_product 2 = .ok (.lcmp, 1) := by decide +kernel
theorem dX1_product_3 : decode cX1_product 3 = .ok (.ifCond .eq 23, 3) := by decide +kernel
theorem dX1_product_6 : decode cX1_product 6 = .ok (.lload_n 2, 1) := by decide +kernel
theorem dX1_product_7 : decode cX1_product 7 = .ok (.invokestatic 72, 3) := by decide +kernel
theorem dX1_product_10 : decode cX1_product 10 = .ok (.ldc2_w 114, 3) := by decide +kernel
theorem dX1_product_13 : decode cX1_product 13 = .ok (.lload_n 0, 1) := by decide +kernel
theorem dX1_product_14 : decode cX1_product 14 = .ok (.invokestatic 72, 3) := by decide +kernel
theorem dX1_product_17 : decode cX1_product 17 = .ok (.ldiv, 1) := by decide +kernel
theorem dX1_product_18 : decode cX1_product 18 = .ok (.lcmp, 1) := by decide +kernel
theorem dX1_product_19 : decode cX1_product 19 = .ok (.ifCond .le 7, 3) := by decide +kernel
theorem dX1_product_22 : decode cX1_product 22 = .ok (.ldc2_w 112, 3) := by decide +kernel
theorem dX1_product_25 : decode cX1_product 25 = .ok (.lreturn, 1) := by decide +kernel
theorem dX1_product_26 : decode cX1_product 26 = .ok (.lload_n 0, 1) := by decide +kernel
theorem dX1_product_27 : decode cX1_product 27 = .ok (.lload_n 2, 1) := by decide +kernel
theorem dX1_product_28 : decode cX1_product 28 = .ok (.lmul, 1) := by decide +kernel
theorem dX1_product_29 : decode cX1_product 29 = .ok (.lreturn, 1) := by decide +kernel
theorem dX2_init_0 : decode cX2_init 0 = .ok (.aload_n 0, 1) := by decide +kernel
theorem dX2_init_1 : decode cX2_init 1 = .ok (.invokespecial 3, 3) := by decide +kernel
theorem dX2_init_4 : decode cX2_init 4 = .ok (.aload_n 0, 1) := by decide +kernel
theorem dX2_init_5 : decode cX2_init 5 = .ok (.bipush 40, 2) := by decide +kernel
theorem dX2_init_7 : decode cX2_init 7 = .ok (.newarray .int, 2) := by decide +kernel
theorem dX2_init_9 : decode cX2_init 9 = .ok (.putfield 9, 3) := by decide +kernel
theorem dX2_init_12 : decode cX2_init 12 = .ok (.aload_n 0, 1) := by decide +kernel
theorem dX2_init_13 : decode cX2_init 13 = .ok (.iconst 0, 1) := by decide +kernel
theorem dX2_init_14 : decode cX2_init 14 = .ok (.putfield 15, 3) := by decide +kernel
theorem dX2_init_17 : decode cX2_init 17 = .ok (.aload_n 0, 1) := by decide +kernel
theorem dX2_init_18 : decode cX2_init 18 = .ok (.iconst 2, 1) := by decide +kernel
theorem dX2_init_19 : decode cX2_init 19 = .ok (.putfield 19, 3) := by decide +kernel
theorem dX2_init_22 : decode cX2_init 22 = .ok (.aload_n 0, 1) := by decide +kernel
theorem dX2_init_23 : decode cX2_init 23 = .ok (.iconst 0, 1) := by decide +kernel
theorem dX2_init_24 : decode cX2_init 24 = .ok (.putfield 22, 3) := by decide +kernel
theorem dX2_init_27 : decode cX2_init 27 = .ok (.aload_n 0, 1) := by decide +kernel
theorem dX2_init_28 : decode cX2_init 28 = .ok (.bipush 41, 2) := by decide +kernel
theorem dX2_init_30 : decode cX2_init 30 = .ok (.newarray .int, 2) := by decide +kernel
theorem dX2_init_32 : decode cX2_init 32 = .ok (.putfield 25, 3) := by decide +kernel
theorem dX2_init_35 : decode cX2_init 35 = .ok (.aload_n 0, 1) := by decide +kernel
theorem dX2_init_36 : decode cX2_init 36 = .ok (.bipush 40, 2) := by decide +kernel
theorem dX2_init_38 : decode cX2_init 38 = .ok (.bipush 41, 2) := by decide +kernel
theorem dX2_init_40 : decode cX2_init 40 = .ok (.multianewarray 28 2, 4) := by decide +kernel
theorem dX2_init_44 : decode cX2_init 44 = .ok (.putfield 30, 3) := by decide +kernel
theorem dX2_init_47 : decode cX2_init 47 = .ok (.aload_n 0, 1) := by decide +kernel
theorem dX2_init_48 : decode cX2_init 48 = .ok (.bipush 40, 2) := by decide +kernel
theorem dX2_init_50 : decode cX2_init 50 = .ok (.newarray .int, 2) := by decide +kernel
theorem dX2_init_52 : decode cX2_init 52 = .ok (.putfield 33, 3) := by decide +kernel
theorem dX2_init_55 : decode cX2_init 55 = .ok (.aload_n 0, 1) := by decide +kernel
theorem dX2_init_56 : decode cX2_init 56 = .ok (.new 36, 3) := by decide +kernel
theorem dX2_init_59 : decode cX2_init 59 = .ok (.dup, 1) := by decide +kernel
theorem dX2_init_60 : decode cX2_init 60 = .ok (.invokespecial 38, 3) := by decide +kernel
theorem dX2_init_63 : decode cX2_init 63 = .ok (.putfield 39, 3) := by decide +kernel
theorem dX2_init_66 : decode cX2_init 66 = .ok (.return_, 1) := by decide +kernel
theorem dX2_append_0 : decode cX2_append 0 = .ok (.aload_n 0, 1) := by decide +kernel
theorem dX2_append_1 : decode cX2_append 1 = .ok (.getfield 15, 3) := by decide +kernel
theorem dX2_append_4 : decode cX2_append 4 = .ok (.bipush 40, 2) := by decide +kernel
theorem dX2_append_6 : decode cX2_append 6 = .ok (.if_icmp .lt 5, 3) := by decide +kernel
theorem dX2_append_9 : decode cX2_append 9 = .ok (.iconst 0, 1) := by decide +kernel
theorem dX2_append_10 : decode cX2_append 10 = .ok (.ireturn, 1) := by decide +kernel
theorem dX2_append_11 : decode cX2_append 11 = .ok (.aload_n 0, 1) := by decide +kernel
theorem dX2_append_12 : decode cX2_append 12 = .ok (.getfield 9, 3) := by decide +kernel
theorem dX2_append_15 : decode cX2_append 15 = .ok (.aload_n 0, 1) := by decide +kernel
theorem dX2_append_16 : decode cX2_append 16 = .ok (.getfield 15, 3) := by decide +kernel
theorem dX2_append_19 : decode cX2_append 19 = .ok (.iload_n 1, 1) := by decide +kernel
theorem dX2_append_20 : decode cX2_append 20 = .ok (.iastore, 1) := by decide +kernel
theorem dX2_append_21 : decode cX2_append 21 = .ok (.aload_n 0, 1) := by decide +kernel
theorem dX2_append_22 : decode cX2_append 22 = .ok (.dup, 1) := by decide +kernel
theorem dX2_append_23 : decode cX2_append 23 = .ok (.getfield 15, 3) := by decide +kernel
theorem dX2_append_26 : decode cX2_append 26 = .ok (.iconst 1, 1) := by decide +kernel
theorem dX2_append_27 : decode cX2_append 27 = .ok (.iadd, 1) := by decide +kernel
theorem dX2_append_28 : decode cX2_append 28 = .ok (.putfield 15, 3) := by decide +kernel
theorem dX2_append_31 : decode cX2_append 31 = .ok (.iconst 1, 1) := by decide +kernel
theorem dX2_append_32 : decode cX2_append 32 = .ok (.ireturn, 1) := by decide +kernel
theorem dX2_brokenBy_0 : decode cX2_brokenBy 0 = .ok (.aload_n 0, 1) := by decide +kernel
theorem dX2_brokenBy_1 : decode cX2_brokenBy 1 = .ok (.getfield 39, 3) := by decide +kernel
theorem dX2_brokenBy_4 : decode cX2_brokenBy 4 = .ok (.aload_n 1, 1) := by decide +kernel
theorem dX2_brokenBy_5 : decode cX2_brokenBy 5 = .ok (.aload_n 0, 1) := by decide +kernel
theorem dX2_brokenBy_6 : decode cX2_brokenBy 6 = .ok (.getfield 19, 3) := by decide +kernel
theorem dX2_brokenBy_9 : decode cX2_brokenBy 9 = .ok (.invokevirtual 43, 3) := by decide +kernel
theorem dX2_brokenBy_12 : decode cX2_brokenBy 12 = .ok (.iconst 0, 1) := by decide +kernel
theorem dX2_brokenBy_13 : decode cX2_brokenBy 13 = .ok (.istore_n 2, 1) := by decide +kernel
theorem dX2_brokenBy_14 : decode cX2_brokenBy 14 = .ok (.iload_n 2, 1) := by decide +kernel
theorem dX2_brokenBy_15 : decode cX2_brokenBy 15 = .ok (.aload_n 0, 1) := by decide +kernel
theorem dX2_brokenBy_16 : decode cX2_brokenBy 16 = .ok (.getfield 15, 3) := by decide +kernel
theorem dX2_brokenBy_19 : decode cX2_brokenBy 19 = .ok (.if_icmp .ge 34, 3) := by decide +kernel
theorem dX2_brokenBy_22 : decode cX2_brokenBy 22 = .ok (.aload_n 0, 1) := by decide +kernel
theorem dX2_brokenBy_23 : decode cX2_brokenBy 23 = .ok (.getfield 39, 3) := by decide +kernel
theorem dX2_brokenBy_26 : decode cX2_brokenBy 26 = .ok (.invokevirtual 47, 3) := by decide +kernel
theorem dX2_brokenBy_29 : decode cX2_brokenBy 29 = .ok (.aload_n 0, 1) := by decide +kernel
theorem dX2_brokenBy_30 : decode cX2_brokenBy 30 = .ok (.getfield 9, 3) := by decide +kernel
theorem dX2_brokenBy_33 : decode cX2_brokenBy 33 = .ok (.iload_n 2, 1) := by decide +kernel
theorem dX2_brokenBy_34 : decode cX2_brokenBy 34 = .ok (.iaload, 1) := by decide +kernel
theorem dX2_brokenBy_35 : decode cX2_brokenBy 35 = .ok (.if_icmp .eq 5, 3) := by decide +kernel
theorem dX2_brokenBy_38 : decode cX2_brokenBy 38 = .ok (.iload_n 2, 1) := by decide +kernel
theorem dX2_brokenBy_39 : decode cX2_brokenBy 39 = .ok (.ireturn, 1) := by decide +kernel
theorem dX2_brokenBy_40 : decode cX2_brokenBy 40 = .ok (.aload_n 0, 1) := by decide +kernel
theorem dX2_brokenBy_41 : decode cX2_brokenBy 41 = .ok (.getfield 39, 3) := by decide +kernel
theorem dX2_brokenBy_44 : decode cX2_brokenBy 44 = .ok (.invokevirtual 51, 3) := by decide +kernel
theorem dX2_brokenBy_47 : decode cX2_brokenBy 47 = .ok (.iinc 2 1, 3) := by decide +kernel
theorem dX2_brokenBy_50 : decode cX2_brokenBy 50 = .ok (.goto (-36), 3) := by decide +kernel
theorem dX2_brokenBy_53 : decode cX2_brokenBy 53 = .ok (.bipush (-4), 2) := by decide +kernel
theorem dX2_brokenBy_55 : decode cX2_brokenBy 55 = .ok (.ireturn, 1) := by decide +kernel
theorem dX2_carriedOn_0 : decode cX2_carriedOn 0 = .ok (.iconst 0, 1) := by decide +kernel
theorem dX2_carriedOn_1 : decode cX2_carriedOn 1 = .ok (.istore_n 1, 1) := by decide +kernel
theorem dX2_carriedOn_2 : decode cX2_carriedOn 2 = .ok (.iconst 1, 1) := by decide +kernel
theorem dX2_carriedOn_3 : decode cX2_carriedOn 3 = .ok (.istore_n 2, 1) := by decide +kernel
theorem dX2_carriedOn_4 : decode cX2_carriedOn 4 = .ok (.iload_n 2, 1) := by decide +kernel
theorem dX2_carriedOn_5 : decode cX2_carriedOn 5 = .ok (.aload_n 0, 1) := by decide +kernel
theorem dX2_carriedOn_6 : decode cX2_carriedOn 6 = .ok (.getfield 22, 3) := by decide +kernel
theorem dX2_carriedOn_9 : decode cX2_carriedOn 9 = .ok (.if_icmp .gt 30, 3) := by decide +kernel
theorem dX2_carriedOn_12 : decode cX2_carriedOn 12 = .ok (.iload_n 1, 1) := by decide +kernel
theorem dX2_carriedOn_13 : decode cX2_carriedOn 13 = .ok (.aload_n 0, 1) := by decide +kernel
theorem dX2_carriedOn_14 : decode cX2_carriedOn 14 = .ok (.getfield 25, 3) := by decide +kernel
theorem dX2_carriedOn_17 : decode cX2_carriedOn 17 = .ok (.iload_n 2, 1) := by decide +kernel
theorem dX2_carriedOn_18 : decode cX2_carriedOn 18 = .ok (.iaload, 1) := by decide +kernel
theorem dX2_carriedOn_19 : decode cX2_carriedOn 19 = .ok (.aload_n 0, 1) := by decide +kernel
theorem dX2_carriedOn_20 : decode cX2_carriedOn 20 = .ok (.getfield 9, 3) := by decide +kernel
theorem dX2_carriedOn_23 : decode cX2_carriedOn 23 = .ok (.aload_n 0, 1) := by decide +kernel
theorem dX2_carriedOn_24 : decode cX2_carriedOn 24 = .ok (.getfield 15, 3) := by decide +kernel
theorem dX2_carriedOn_27 : decode cX2_carriedOn 27 = .ok (.iload_n 2, 1) := by decide +kernel
theorem dX2_carriedOn_28 : decode cX2_carriedOn 28 = .ok (.isub, 1) := by decide +kernel
theorem dX2_carriedOn_29 : decode cX2_carriedOn 29 = .ok (.iaload, 1) := by decide +kernel
theorem dX2_carriedOn_30 : decode cX2_carriedOn 30 = .ok (.imul, 1) := by decide +kernel
theorem dX2_carriedOn_31 : decode cX2_carriedOn 31 = .ok (.iadd, 1) := by decide +kernel
theorem dX2_carriedOn_32 : decode cX2_carriedOn 32 = .ok (.istore_n 1, 1) := by decide +kernel
theorem dX2_carriedOn_33 : decode cX2_carriedOn 33 = .ok (.iinc 2 1, 3) := by decide +kernel
theorem dX2_carriedOn_36 : decode cX2_carriedOn 36 = .ok (.goto (-32), 3) := by decide +kernel
theorem dX2_carriedOn_39 : decode cX2_carriedOn 39 = .ok (.iload_n 1, 1) := by decide +kernel
theorem dX2_carriedOn_40 : decode cX2_carriedOn 40 = .ok (.aload_n 0, 1) := by decide +kernel
theorem dX2_carriedOn_41 : decode cX2_carriedOn 41 = .ok (.getfield 19, 3) := by decide +kernel
theorem dX2_carriedOn_44 : decode cX2_carriedOn 44 = .ok (.irem, 1) := by decide +kernel
theorem dX2_carriedOn_45 : decode cX2_carriedOn 45 = .ok (.ireturn, 1) := by decide +kernel
theorem dX2_findLeastLaw_0 : decode cX2_findLeastLaw 0 = .ok (.aload_n 0, 1) := by decide +kernel
theorem dX2_findLeastLaw_1 : decode cX2_findLeastLaw 1 = .ok (.iconst 0, 1) := by decide +kernel
theorem dX2_findLeastLaw_2 : decode cX2_findLeastLaw 2 = .ok (.putfield 22, 3) := by decide +kernel
theorem dX2_findLeastLaw_5 : decode cX2_findLeastLaw 5 = .ok (.aload_n 0, 1) := by decide +kernel
theorem dX2_findLeastLaw_6 : decode cX2_findLeastLaw 6 = .ok (.getfield 22, 3) := by decide +kernel
theorem dX2_findLeastLaw_9 : decode cX2_findLeastLaw 9 = .ok (.aload_n 0, 1) := by decide +kernel
theorem dX2_findLeastLaw_10 : decode cX2_findLeastLaw 10 = .ok (.getfield 15, 3) := by decide +kernel
theorem dX2_findLeastLaw_13 : decode cX2_findLeastLaw 13 = .ok (.if_icmp .ge 23, 3) := by decide +kernel
theorem dX2_findLeastLaw_16 : decode cX2_findLeastLaw 16 = .ok (.aload_n 0, 1) := by decide +kernel
theorem dX2_findLeastLaw_17 : decode cX2_findLeastLaw 17 = .ok (.invokevirtual 54, 3) := by decide +kernel
theorem dX2_findLeastLaw_20 : decode cX2_findLeastLaw 20 = .ok (.ifCond .ne 16, 3) := by decide +kernel
theorem dX2_findLeastLaw_23 : decode cX2_findLeastLaw 23 = .ok (.aload_n 0, 1) := by decide +kernel
theorem dX2_findLeastLaw_24 : decode cX2_findLeastLaw 24 = .ok (.dup, 1) := by decide +kernel
theorem dX2_findLeastLaw_25 : decode cX2_findLeastLaw 25 = .ok (.getfield 22, 3) := by decide +kernel
theorem dX2_findLeastLaw_28 : decode cX2_findLeastLaw 28 = .ok (.iconst 1, 1) := by decide +kernel
theorem dX2_findLeastLaw_29 : decode cX2_findLeastLaw 29 = .ok (.iadd, 1) := by decide +kernel
theorem dX2_findLeastLaw_30 : decode cX2_findLeastLaw 30 = .ok (.putfield 22, 3) := by decide +kernel
theorem dX2_findLeastLaw_33 : decode cX2_findLeastLaw 33 = .ok (.goto (-28), 3) := by decide +kernel
theorem dX2_findLeastLaw_36 : decode cX2_findLeastLaw 36 = .ok (.aload_n 0, 1) := by decide +kernel
theorem dX2_findLeastLaw_37 : decode cX2_findLeastLaw 37 = .ok (.getfield 22, 3) := by decide +kernel
theorem dX2_findLeastLaw_40 : decode cX2_findLeastLaw 40 = .ok (.aload_n 0, 1) := by decide +kernel
theorem dX2_findLeastLaw_41 : decode cX2_findLeastLaw 41 = .ok (.getfield 15, 3) := by decide +kernel
theorem dX2_findLeastLaw_44 : decode cX2_findLeastLaw 44 = .ok (.if_icmp .ne 8, 3) := by decide +kernel
theorem dX2_findLeastLaw_47 : decode cX2_findLeastLaw 47 = .ok (.aload_n 0, 1) := by decide +kernel
theorem dX2_findLeastLaw_48 : decode cX2_findLeastLaw 48 = .ok (.invokevirtual 54, 3) := by decide +kernel
theorem dX2_findLeastLaw_51 : decode cX2_findLeastLaw 51 = .ok (.pop, 1) := by decide +kernel
theorem dX2_findLeastLaw_52 : decode cX2_findLeastLaw 52 = .ok (.return_, 1) := by decide +kernel
theorem dX2_solve_0 : decode cX2_solve 0 = .ok (.aload_n 0, 1) := by decide +kernel
theorem dX2_solve_1 : decode cX2_solve 1 = .ok (.getfield 15, 3) := by decide +kernel
theorem dX2_solve_4 : decode cX2_solve 4 = .ok (.aload_n 0, 1) := by decide +kernel
theorem dX2_solve_5 : decode cX2_solve 5 = .ok (.getfield 22, 3) := by decide +kernel
theorem dX2_solve_8 : decode cX2_solve 8 = .ok (.isub, 1) := by decide +kernel
theorem dX2_solve_9 : decode cX2_solve 9 = .ok (.istore_n 1, 1) := by decide +kernel
theorem dX2_solve_10 : decode cX2_solve 10 = .ok (.iconst 0, 1) := by decide +kernel
theorem dX2_solve_11 : decode cX2_solve 11 = .ok (.istore_n 2, 1) := by decide +kernel
theorem dX2_solve_12 : decode cX2_solve 12 = .ok (.iload_n 2, 1) := by decide +kernel
theorem dX2_solve_13 : decode cX2_solve 13 = .ok (.iload_n 1, 1) := by decide +kernel
theorem dX2_solve_14 : decode cX2_solve 14 = .ok (.if_icmp .ge 30, 3) := by decide +kernel
theorem dX2_solve_17 : decode cX2_solve 17 = .ok (.aload_n 0, 1) := by decide +kernel
theorem dX2_solve_18 : decode cX2_solve 18 = .ok (.getfield 9, 3) := by decide +kernel
theorem dX2_solve_21 : decode cX2_solve 21 = .ok (.iload_n 2, 1) := by decide +kernel
theorem dX2_solve_22 : decode cX2_solve 22 = .ok (.aload_n 0, 1) := by decide +kernel
theorem dX2_solve_23 : decode cX2_solve 23 = .ok (.getfield 30, 3) := by decide +kernel
theorem dX2_solve_26 : decode cX2_solve 26 = .ok (.iload_n 2, 1) := by decide +kernel
theorem dX2_solve_27 : decode cX2_solve 27 = .ok (.aaload, 1) := by decide +kernel
theorem dX2_solve_28 : decode cX2_solve 28 = .ok (.iconst 0, 1) := by decide +kernel
theorem dX2_solve_29 : decode cX2_solve 29 = .ok (.aload_n 0, 1) := by decide +kernel
theorem dX2_solve_30 : decode cX2_solve 30 = .ok (.getfield 22, 3) := by decide +kernel
theorem dX2_solve_33 : decode cX2_solve 33 = .ok (.iconst 1, 1) := by decide +kernel
theorem dX2_solve_34 : decode cX2_solve 34 = .ok (.iadd, 1) := by decide +kernel
theorem dX2_solve_35 : decode cX2_solve 35 = .ok (.invokestatic 58, 3) := by decide +kernel
theorem dX2_solve_38 : decode cX2_solve 38 = .ok (.iinc 2 1, 3) := by decide +kernel
theorem dX2_solve_41 : decode cX2_solve 41 = .ok (.goto (-29), 3) := by decide +kernel
theorem dX2_solve_44 : decode cX2_solve 44 = .ok (.aload_n 0, 1) := by decide +kernel
theorem dX2_solve_45 : decode cX2_solve 45 = .ok (.iload_n 1, 1) := by decide +kernel
theorem dX2_solve_46 : decode cX2_solve 46 = .ok (.invokevirtual 64, 3) := by decide +kernel
theorem dX2_solve_49 : decode cX2_solve 49 = .ok (.istore_n 2, 1) := by decide +kernel
theorem dX2_solve_50 : decode cX2_solve 50 = .ok (.iload_n 2, 1) := by decide +kernel
theorem dX2_solve_51 : decode cX2_solve 51 = .ok (.istore_n 3, 1) := by decide +kernel
theorem dX2_solve_52 : decode cX2_solve 52 = .ok (.iload_n 3, 1) := by decide +kernel
theorem dX2_solve_53 : decode cX2_solve 53 = .ok (.iload_n 1, 1) := by decide +kernel
theorem dX2_solve_54 : decode cX2_solve 54 = .ok (.if_icmp .ge 25, 3) := by decide +kernel
theorem dX2_solve_57 : decode cX2_solve 57 = .ok (.aload_n 0, 1) := by decide +kernel
theorem dX2_solve_58 : decode cX2_solve 58 = .ok (.getfield 30, 3) := by decide +kernel
theorem dX2_solve_61 : decode cX2_solve 61 = .ok (.iload_n 3, 1) := by decide +kernel
theorem dX2_solve_62 : decode cX2_solve 62 = .ok (.aaload, 1) := by decide +kernel
theorem dX2_solve_63 : decode cX2_solve 63 = .ok (.aload_n 0, 1) := by decide +kernel
theorem dX2_solve_64 : decode cX2_solve 64 = .ok (.getfield 22, 3) := by decide +kernel
theorem dX2_solve_67 : decode cX2_solve 67 = .ok (.iaload, 1) := by decide +kernel
theorem dX2_solve_68 : decode cX2_solve 68 = .ok (.ifCond .eq 5, 3) := by decide +kernel
theorem dX2_solve_71 : decode cX2_solve 71 = .ok (.iconst 0, 1) := by decide +kernel
theorem dX2_solve_72 : decode cX2_solve 72 = .ok (.ireturn, 1) := by decide +kernel
theorem dX2_solve_73 : decode cX2_solve 73 = .ok (.iinc 3 1, 3) := by decide +kernel
theorem dX2_solve_76 : decode cX2_solve 76 = .ok (.goto (-24), 3) := by decide +kernel
theorem dX2_solve_79 : decode cX2_solve 79 = .ok (.iconst 1, 1) := by decide +kernel
theorem dX2_solve_80 : decode cX2_solve 80 = .ok (.istore_n 3, 1) := by decide +kernel
theorem dX2_solve_81 : decode cX2_solve 81 = .ok (.iload_n 3, 1) := by decide +kernel
theorem dX2_solve_82 : decode cX2_solve 82 = .ok (.aload_n 0, 1) := by decide +kernel
theorem dX2_solve_83 : decode cX2_solve 83 = .ok (.getfield 22, 3) := by decide +kernel
theorem dX2_solve_86 : decode cX2_solve 86 = .ok (.if_icmp .gt 16, 3) := by decide +kernel
theorem dX2_solve_89 : decode cX2_solve 89 = .ok (.aload_n 0, 1) := by decide +kernel
theorem dX2_solve_90 : decode cX2_solve 90 = .ok (.getfield 25, 3) := by decide +kernel
theorem dX2_solve_93 : decode cX2_solve 93 = .ok (.iload_n 3, 1) := by decide +kernel
theorem dX2_solve_94 : decode cX2_solve 94 = .ok (.iconst 0, 1) := by decide +kernel
theorem dX2_solve_95 : decode cX2_solve 95 = .ok (.iastore, 1) := by decide +kernel
theorem dX2_solve_96 : decode cX2_solve 96 = .ok (.iinc 3 1, 3) := by decide +kernel
theorem dX2_solve_99 : decode cX2_solve 99 = .ok (.goto (-18), 3) := by decide +kernel
theorem dX2_solve_102 : decode cX2_solve 102 = .ok (.iconst 0, 1) := by decide +kernel
theorem dX2_solve_103 : decode cX2_solve 103 = .ok (.istore_n 3, 1) := by decide +kernel
theorem dX2_solve_104 : decode cX2_solve 104 = .ok (.iload_n 3, 1) := by decide +kernel
theorem dX2_solve_105 : decode cX2_solve 105 = .ok (.iload_n 2, 1) := by decide +kernel
theorem dX2_solve_106 : decode cX2_solve 106 = .ok (.if_icmp .ge 36, 3) := by decide +kernel
theorem dX2_solve_109 : decode cX2_solve 109 = .ok (.aload_n 0, 1) := by decide +kernel
theorem dX2_solve_110 : decode cX2_solve 110 = .ok (.getfield 25, 3) := by decide +kernel
theorem dX2_solve_113 : decode cX2_solve 113 = .ok (.aload_n 0, 1) := by decide +kernel
theorem dX2_solve_114 : decode cX2_solve 114 = .ok (.getfield 22, 3) := by decide +kernel
theorem dX2_solve_117 : decode cX2_solve 117 = .ok (.aload_n 0, 1) := by decide +kernel
theorem dX2_solve_118 : decode cX2_solve 118 = .ok (.getfield 33, 3) := by decide +kernel
theorem dX2_solve_121 : decode cX2_solve 121 = .ok (.iload_n 3, 1) := by decide +kernel
theorem dX2_solve_122 : decode cX2_solve 122 = .ok (.iaload, 1) := by decide +kernel
theorem dX2_solve_123 : decode cX2_solve 123 = .ok (.isub, 1) := by decide +kernel
theorem dX2_solve_124 : decode cX2_solve 124 = .ok (.aload_n 0, 1) := by decide +kernel
theorem dX2_solve_125 : decode cX2_solve 125 = .ok (.getfield 30, 3) := by decide +kernel
theorem dX2_solve_128 : decode cX2_solve 128 = .ok (.iload_n 3, 1) := by decide +kernel
theorem dX2_solve_129 : decode cX2_solve 129 = .ok (.aaload, 1) := by decide +kernel
theorem dX2_solve_130 : decode cX2_solve 130 = .ok (.aload_n 0, 1) := by decide +kernel
theorem dX2_solve_131 : decode cX2_solve 131 = .ok (.getfield 22, 3) := by decide +kernel
theorem dX2_solve_134 : decode cX2_solve 134 = .ok (.iaload, 1) := by decide +kernel
theorem dX2_solve_135 : decode cX2_solve 135 = .ok (.iastore, 1) := by decide +kernel
theorem dX2_solve_136 : decode cX2_solve 136 = .ok (.iinc 3 1, 3) := by decide +kernel
theorem dX2_solve_139 : decode cX2_solve 139 = .ok (.goto (-35), 3) := by decide +kernel
theorem dX2_solve_142 : decode cX2_solve 142 = .ok (.iconst 1, 1) := by decide +kernel
theorem dX2_solve_143 : decode cX2_solve 143 = .ok (.ireturn, 1) := by decide +kernel
theorem dX2_leadLines_0 : decode cX2_leadLines 0 = .ok (.iconst 0, 1) := by decide +kernel
theorem dX2_leadLines_1 : decode cX2_leadLines 1 = .ok (.istore_n 2, 1) := by decide +kernel
theorem dX2_leadLines_2 : decode cX2_leadLines 2 = .ok (.iconst 0, 1) := by decide +kernel
theorem dX2_leadLines_3 : decode cX2_leadLines 3 = .ok (.istore_n 3, 1) := by decide +kernel
theorem dX2_leadLines_4 : decode cX2_leadLines 4 = .ok (.iload_n 3, 1) := by decide +kernel
theorem dX2_leadLines_5 : decode cX2_leadLines 5 = .ok (.aload_n 0, 1) := by decide +kernel
theorem dX2_leadLines_6 : decode cX2_leadLines 6 = .ok (.getfield 22, 3) := by decide +kernel
theorem dX2_leadLines_9 : decode cX2_leadLines 9 = .ok (.if_icmp .ge 87, 3) := by decide +kernel
theorem dX2_leadLines_12 : decode cX2_leadLines 12 = .ok (.iload_n 2, 1) := by decide +kernel
theorem dX2_leadLines_13 : decode cX2_leadLines 13 = .ok (.iload_n 1, 1) := by decide +kernel
theorem dX2_leadLines_14 : decode cX2_leadLines 14 = .ok (.if_icmp .ge 82, 3) := by decide +kernel
theorem dX2_leadLines_17 : decode cX2_leadLines 17 = .ok (.aload_n 0, 1) := by decide +kernel
theorem dX2_leadLines_18 : decode cX2_leadLines 18 = .ok (.iload_n 3, 1) := by decide +kernel
theorem dX2_leadLines_19 : decode cX2_leadLines 19 = .ok (.iload_n 2, 1) := by decide +kernel
theorem dX2_leadLines_20 : decode cX2_leadLines 20 = .ok (.iload_n 1, 1) := by decide +kernel
theorem dX2_leadLines_21 : decode cX2_leadLines 21 = .ok (.invokevirtual 68, 3) := by decide +kernel
theorem dX2_leadLines_24 : decode cX2_leadLines 24 = .ok (.istore 4, 2) := by decide +kernel
theorem dX2_leadLines_26 : decode cX2_leadLines 26 = .ok (.iload 4, 2) := by decide +kernel
theorem dX2_leadLines_28 : decode cX2_leadLines 28 = .ok (.iload_n 1, 1) := by decide +kernel
theorem dX2_leadLines_29 : decode cX2_leadLines 29 = .ok (.if_icmp .ge 61, 3) := by decide +kernel
theorem dX2_leadLines_32 : decode cX2_leadLines 32 = .ok (.aload_n 0, 1) := by decide +kernel
theorem dX2_leadLines_33 : decode cX2_leadLines 33 = .ok (.getfield 30, 3) := by decide +kernel
theorem dX2_leadLines_36 : decode cX2_leadLines 36 = .ok (.iload_n 2, 1) := by decide +kernel
theorem dX2_leadLines_37 : decode cX2_leadLines 37 = .ok (.aaload, 1) := by decide +kernel
theorem dX2_leadLines_38 : decode cX2_leadLines 38 = .ok (.astore 5, 2) := by decide +kernel
theorem dX2_leadLines_40 : decode cX2_leadLines 40 = .ok (.aload_n 0, 1) := by decide +kernel
theorem dX2_leadLines_41 : decode cX2_leadLines 41 = .ok (.getfield 30, 3) := by decide +kernel
theorem dX2_leadLines_44 : decode cX2_leadLines 44 = .ok (.iload_n 2, 1) := by decide +kernel
theorem dX2_leadLines_45 : decode cX2_leadLines 45 = .ok (.aload_n 0, 1) := by decide +kernel
theorem dX2_leadLines_46 : decode cX2_leadLines 46 = .ok (.getfield 30, 3) := by decide +kernel
theorem dX2_leadLines_49 : decode cX2_leadLines 49 = .ok (.iload 4, 2) := by decide +kernel
theorem dX2_leadLines_51 : decode cX2_leadLines 51 = .ok (.aaload, 1) := by decide +kernel
theorem dX2_leadLines_52 : decode cX2_leadLines 52 = .ok (.aastore, 1) := by decide +kernel
theorem dX2_leadLines_53 : decode cX2_leadLines 53 = .ok (.aload_n 0, 1) := by decide +kernel
theorem dX2_leadLines_54 : decode cX2_leadLines 54 = .ok (.getfield 30, 3) := by decide +kernel
theorem dX2_leadLines_57 : decode cX2_leadLines 57 = .ok (.iload 4, 2) := by decide +kernel
theorem dX2_leadLines_59 : decode cX2_leadLines 59 = .ok (.aload 5, 2) := by decide +kernel
theorem dX2_leadLines_61 : decode cX2_leadLines 61 = .ok (.aastore, 1) := by decide +kernel
theorem dX2_leadLines_62 : decode cX2_leadLines 62 = .ok (.aload_n 0, 1) := by decide +kernel
theorem dX2_leadLines_63 : decode cX2_leadLines 63 = .ok (.getfield 33, 3) := by decide +kernel
theorem dX2_leadLines_66 : decode cX2_leadLines 66 = .ok (.iload_n 2, 1) := by decide +kernel
theorem dX2_leadLines_67 : decode cX2_leadLines 67 = .ok (.iload_n 3, 1) := by decide +kernel
theorem dX2_leadLines_68 : decode cX2_leadLines 68 = .ok (.iastore, 1) := by decide +kernel
theorem dX2_leadLines_69 : decode cX2_leadLines 69 = .ok (.aload_n 0, 1) := by decide +kernel
theorem dX2_leadLines_70 : decode cX2_leadLines 70 = .ok (.aload_n 0, 1) := by decide +kernel
theorem dX2_leadLines_71 : decode cX2_leadLines 71 = .ok (.getfield 30, 3) := by decide +kernel
theorem dX2_leadLines_74 : decode cX2_leadLines 74 = .ok (.iload_n 2, 1) := by decide +kernel
theorem dX2_leadLines_75 : decode cX2_leadLines 75 = .ok (.aaload, 1) := by decide +kernel
theorem dX2_leadLines_76 : decode cX2_leadLines 76 = .ok (.iload_n 3, 1) := by decide +kernel
theorem dX2_leadLines_77 : decode cX2_leadLines 77 = .ok (.invokevirtual 72, 3) := by decide +kernel
theorem dX2_leadLines_80 : decode cX2_leadLines 80 = .ok (.aload_n 0, 1) := by decide +kernel
theorem dX2_leadLines_81 : decode cX2_leadLines 81 = .ok (.iload_n 3, 1) := by decide +kernel
theorem dX2_leadLines_82 : decode cX2_leadLines 82 = .ok (.iload_n 2, 1) := by decide +kernel
theorem dX2_leadLines_83 : decode cX2_leadLines 83 = .ok (.iload_n 1, 1) := by decide +kernel
theorem dX2_leadLines_84 : decode cX2_leadLines 84 = .ok (.invokevirtual 76, 3) := by decide +kernel
theorem dX2_leadLines_87 : decode cX2_leadLines 87 = .ok (.iinc 2 1, 3) := by decide +kernel
theorem dX2_leadLines_90 : decode cX2_leadLines 90 = .ok (.iinc 3 1, 3) := by decide +kernel
theorem dX2_leadLines_93 : decode cX2_leadLines 93 = .ok (.goto (-89), 3) := by decide +kernel
theorem dX2_leadLines_96 : decode cX2_leadLines 96 = .ok (.iload_n 2, 1) := by decide +kernel
theorem dX2_leadLines_97 : decode cX2_leadLines 97 = .ok (.ireturn, 1) := by decide +kernel
theorem dX2_lineWith_0 : decode cX2_lineWith 0 = .ok (.iload_n 2, 1) := by decide +kernel
theorem dX2_lineWith_1 : decode cX2_lineWith 1 = .ok (.istore 4, 2) := by decide +kernel
theorem dX2_lineWith_3 : decode cX2_lineWith 3 = .ok (.iload 4, 2) := by decide +kernel
theorem dX2_lineWith_5 : decode cX2_lineWith 5 = .ok (.iload_n 3, 1) := by decide +kernel
theorem dX2_lineWith_6 : decode cX2_lineWith 6 = .ok (.if_icmp .ge 21, 3) := by decide +kernel
theorem dX2_lineWith_9 : decode cX2_lineWith 9 = .ok (.aload_n 0, 1) := by decide +kernel
theorem dX2_lineWith_10 : decode cX2_lineWith 10 = .ok (.getfield 30, 3) := by decide +kernel
theorem dX2_lineWith_13 : decode cX2_lineWith 13 = .ok (.iload 4, 2) := by decide +kernel
theorem dX2_lineWith_15 : decode cX2_lineWith 15 = .ok (.aaload, 1) := by decide +kernel
theorem dX2_lineWith_16 : decode cX2_lineWith 16 = .ok (.iload_n 1, 1) := by decide +kernel
theorem dX2_lineWith_17 : decode cX2_lineWith 17 = .ok (.iaload, 1) := by decide +kernel
theorem dX2_lineWith_18 : decode cX2_lineWith 18 = .ok (.ifCond .ne 9, 3) := by decide +kernel
theorem dX2_lineWith_21 : decode cX2_lineWith 21 = .ok (.iinc 4 1, 3) := by decide +kernel
theorem dX2_lineWith_24 : decode cX2_lineWith 24 = .ok (.goto (-21), 3) := by decide +kernel
theorem dX2_lineWith_27 : decode cX2_lineWith 27 = .ok (.iload 4, 2) := by decide +kernel
theorem dX2_lineWith_29 : decode cX2_lineWith 29 = .ok (.ireturn, 1) := by decide +kernel
theorem dX2_scale_0 : decode cX2_scale 0 = .ok (.aload_n 1, 1) := by decide +kernel
theorem dX2_scale_1 : decode cX2_scale 1 = .ok (.iload_n 2, 1) := by decide +kernel
theorem dX2_scale_2 : decode cX2_scale 2 = .ok (.iaload, 1) := by decide +kernel
theorem dX2_scale_3 : decode cX2_scale 3 = .ok (.i2l, 1) := by decide +kernel
theorem dX2_scale_4 : decode cX2_scale 4 = .ok (.aload_n 0, 1) := by decide +kernel
theorem dX2_scale_5 : decode cX2_scale 5 = .ok (.getfield 19, 3) := by decide +kernel
theorem dX2_scale_8 : decode cX2_scale 8 = .ok (.invokestatic 80, 3) := by decide +kernel
theorem dX2_scale_11 : decode cX2_scale 11 = .ok (.istore_n 3, 1) := by decide +kernel
theorem dX2_scale_12 : decode cX2_scale 12 = .ok (.iload_n 2, 1) := by decide +kernel
theorem dX2_scale_13 : decode cX2_scale 13 = .ok (.istore 4, 2) := by decide +kernel
theorem dX2_scale_15 : decode cX2_scale 15 = .ok (.iload 4, 2) := by decide +kernel
theorem dX2_scale_17 : decode cX2_scale 17 = .ok (.aload_n 0, 1) := by decide +kernel
theorem dX2_scale_18 : decode cX2_scale 18 = .ok (.getfield 22, 3) := by decide +kernel
theorem dX2_scale_21 : decode cX2_scale 21 = .ok (.if_icmp .gt 24, 3) := by decide +kernel
theorem dX2_scale_24 : decode cX2_scale 24 = .ok (.aload_n 1, 1) := by decide +kernel
theorem dX2_scale_25 : decode cX2_scale 25 = .ok (.iload 4, 2) := by decide +kernel
theorem dX2_scale_27 : decode cX2_scale 27 = .ok (.aload_n 1, 1) := by decide +kernel
theorem dX2_scale_28 : decode cX2_scale 28 = .ok (.iload 4, 2) := by decide +kernel
theorem dX2_scale_30 : decode cX2_scale 30 = .ok (.iaload, 1) := by decide +kernel
theorem dX2_scale_31 : decode cX2_scale 31 = .ok (.iload_n 3, 1) := by decide +kernel
theorem dX2_scale_32 : decode cX2_scale 32 = .ok (.imul, 1) := by decide +kernel
theorem dX2_scale_33 : decode cX2_scale 33 = .ok (.aload_n 0, 1) := by decide +kernel
theorem dX2_scale_34 : decode cX2_scale 34 = .ok (.getfield 19, 3) := by decide +kernel
theorem dX2_scale_37 : decode cX2_scale 37 = .ok (.irem, 1) := by decide +kernel
theorem dX2_scale_38 : decode cX2_scale 38 = .ok (.iastore, 1) := by decide +kernel
theorem dX2_scale_39 : decode cX2_scale 39 = .ok (.iinc 4 1, 3) := by decide +kernel
theorem dX2_scale_42 : decode cX2_scale 42 = .ok (.goto (-27), 3) := by decide +kernel
theorem dX2_scale_45 : decode cX2_scale 45 = .ok (.return_, 1) := by decide +kernel
theorem dX2_clear_0 : decode cX2_clear 0 = .ok (.iconst 0, 1) := by decide +kernel
theorem dX2_clear_1 : decode cX2_clear 1 = .ok (.istore 4, 2) := by decide +kernel
theorem dX2_clear_3 : decode cX2_clear 3 = .ok (.iload 4, 2) := by decide +kernel
theorem dX2_clear_5 : decode cX2_clear 5 = .ok (.iload_n 3, 1) := by decide +kernel
theorem dX2_clear_6 : decode cX2_clear 6 = .ok (.if_icmp .ge 92, 3) := by decide +kernel
theorem dX2_clear_9 : decode cX2_clear 9 = .ok (.aload_n 0, 1) := by decide +kernel
theorem dX2_clear_10 : decode cX2_clear 10 = .ok (.getfield 30, 3) := by decide +kernel
theorem dX2_clear_13 : decode cX2_clear 13 = .ok (.iload 4, 2) := by decide +kernel
theorem dX2_clear_15 : decode cX2_clear 15 = .ok (.aaload, 1) := by decide +kernel
theorem dX2_clear_16 : decode cX2_clear 16 = .ok (.iload_n 1, 1) := by decide +kernel
theorem dX2_clear_17 : decode cX2_clear 17 = .ok (.iaload, 1) := by decide +kernel
theorem dX2_clear_18 : decode cX2_clear 18 = .ok (.istore 5, 2) := by decide +kernel
theorem dX2_clear_20 : decode cX2_clear 20 = .ok (.iload 4, 2) := by decide +kernel
theorem dX2_clear_22 : decode cX2_clear 22 = .ok (.iload_n 2, 1) := by decide +kernel
theorem dX2_clear_23 : decode cX2_clear 23 = .ok (.if_icmp .eq 69, 3) := by decide +kernel
theorem dX2_clear_26 : decode cX2_clear 26 = .ok (.iload 5, 2) := by decide +kernel
theorem dX2_clear_28 : decode cX2_clear 28 = .ok (.ifCond .eq 64, 3) := by decide +kernel
theorem dX2_clear_31 : decode cX2_clear 31 = .ok (.iload_n 1, 1) := by decide +kernel
theorem dX2_clear_32 : decode cX2_clear 32 = .ok (.istore 6, 2) := by decide +kernel
theorem dX2_clear_34 : decode cX2_clear 34 = .ok (.iload 6, 2) := by decide +kernel
theorem dX2_clear_36 : decode cX2_clear 36 = .ok (.aload_n 0, 1) := by decide +kernel
theorem dX2_clear_37 : decode cX2_clear 37 = .ok (.getfield 22, 3) := by decide +kernel
theorem dX2_clear_40 : decode cX2_clear 40 = .ok (.if_icmp .gt 52, 3) := by decide +kernel
theorem dX2_clear_43 : decode cX2_clear 43 = .ok (.aload_n 0, 1) := by decide +kernel
theorem dX2_clear_44 : decode cX2_clear 44 = .ok (.getfield 30, 3) := by decide +kernel
theorem dX2_clear_47 : decode cX2_clear 47 = .ok (.iload 4, 2) := by decide +kernel
theorem dX2_clear_49 : decode cX2_clear 49 = .ok (.aaload, 1) := by decide +kernel
theorem dX2_clear_50 : decode cX2_clear 50 = .ok (.iload 6, 2) := by decide +kernel
theorem dX2_clear_52 : decode cX2_clear 52 = .ok (.aload_n 0, 1) := by decide +kernel
theorem dX2_clear_53 : decode cX2_clear 53 = .ok (.getfield 30, 3) := by decide +kernel
theorem dX2_clear_56 : decode cX2_clear 56 = .ok (.iload 4, 2) := by decide +kernel
theorem dX2_clear_58 : decode cX2_clear 58 = .ok (.aaload, 1) := by decide +kernel
theorem dX2_clear_59 : decode cX2_clear 59 = .ok (.iload 6, 2) := by decide +kernel
theorem dX2_clear_61 : decode cX2_clear 61 = .ok (.iaload, 1) := by decide +kernel
theorem dX2_clear_62 : decode cX2_clear 62 = .ok (.aload_n 0, 1) := by decide +kernel
theorem dX2_clear_63 : decode cX2_clear 63 = .ok (.getfield 19, 3) := by decide +kernel
theorem dX2_clear_66 : decode cX2_clear 66 = .ok (.iload 5, 2) := by decide +kernel
theorem dX2_clear_68 : decode cX2_clear 68 = .ok (.isub, 1) := by decide +kernel
theorem dX2_clear_69 : decode cX2_clear 69 = .ok (.aload_n 0, 1) := by decide +kernel
theorem dX2_clear_70 : decode cX2_clear 70 = .ok (.getfield 30, 3) := by decide +kernel
theorem dX2_clear_73 : decode cX2_clear 73 = .ok (.iload_n 2, 1) := by decide +kernel
theorem dX2_clear_74 : decode cX2_clear 74 = .ok (.aaload, 1) := by decide +kernel
theorem dX2_clear_75 : decode cX2_clear 75 = .ok (.iload 6, 2) := by decide +kernel
theorem dX2_clear_77 : decode cX2_clear 77 = .ok (.iaload, 1) := by decide +kernel
theorem dX2_clear_78 : decode cX2_clear 78 = .ok (.imul, 1) := by decide +kernel
theorem dX2_clear_79 : decode cX2_clear 79 = .ok (.iadd, 1) := by decide +kernel
theorem dX2_clear_80 : decode cX2_clear 80 = .ok (.aload_n 0, 1) := by decide +kernel
theorem dX2_clear_81 : decode cX2_clear 81 = .ok (.getfield 19, 3) := by decide +kernel
theorem dX2_clear_84 : decode cX2_clear 84 = .ok (.irem, 1) := by decide +kernel
theorem dX2_clear_85 : decode cX2_clear 85 = .ok (.iastore, 1) := by decide +kernel
theorem dX2_clear_86 : decode cX2_clear 86 = .ok (.iinc 6 1, 3) := by decide +kernel
theorem dX2_clear_89 : decode cX2_clear 89 = .ok (.goto (-55), 3) := by decide +kernel
theorem dX2_clear_92 : decode cX2_clear 92 = .ok (.iinc 4 1, 3) := by decide +kernel
theorem dX2_clear_95 : decode cX2_clear 95 = .ok (.goto (-92), 3) := by decide +kernel
theorem dX2_clear_98 : decode cX2_clear 98 = .ok (.return_, 1) := by decide +kernel
theorem dX3_init_0 : decode cX3_init 0 = .ok (.aload_n 0, 1) := by decide +kernel
theorem dX3_init_1 : decode cX3_init 1 = .ok (.invokespecial 3, 3) := by decide +kernel
theorem dX3_init_4 : decode cX3_init 4 = .ok (.aload_n 0, 1) := by decide +kernel
theorem dX3_init_5 : decode cX3_init 5 = .ok (.new 9, 3) := by decide +kernel
theorem dX3_init_8 : decode cX3_init 8 = .ok (.dup, 1) := by decide +kernel
theorem dX3_init_9 : decode cX3_init 9 = .ok (.invokespecial 11, 3) := by decide +kernel
theorem dX3_init_12 : decode cX3_init 12 = .ok (.putfield 12, 3) := by decide +kernel
theorem dX3_init_15 : decode cX3_init 15 = .ok (.aload_n 0, 1) := by decide +kernel
theorem dX3_init_16 : decode cX3_init 16 = .ok (.new 9, 3) := by decide +kernel
theorem dX3_init_19 : decode cX3_init 19 = .ok (.dup, 1) := by decide +kernel
theorem dX3_init_20 : decode cX3_init 20 = .ok (.invokespecial 11, 3) := by decide +kernel
theorem dX3_init_23 : decode cX3_init 23 = .ok (.putfield 18, 3) := by decide +kernel
theorem dX3_init_26 : decode cX3_init 26 = .ok (.aload_n 0, 1) := by decide +kernel
theorem dX3_init_27 : decode cX3_init 27 = .ok (.new 9, 3) := by decide +kernel
theorem dX3_init_30 : decode cX3_init 30 = .ok (.dup, 1) := by decide +kernel
theorem dX3_init_31 : decode cX3_init 31 = .ok (.invokespecial 11, 3) := by decide +kernel
theorem dX3_init_34 : decode cX3_init 34 = .ok (.putfield 21, 3) := by decide +kernel
theorem dX3_init_37 : decode cX3_init 37 = .ok (.aload_n 0, 1) := by decide +kernel
theorem dX3_init_38 : decode cX3_init 38 = .ok (.new 9, 3) := by decide +kernel
theorem dX3_init_41 : decode cX3_init 41 = .ok (.dup, 1) := by decide +kernel
theorem dX3_init_42 : decode cX3_init 42 = .ok (.invokespecial 11, 3) := by decide +kernel
theorem dX3_init_45 : decode cX3_init 45 = .ok (.putfield 24, 3) := by decide +kernel
theorem dX3_init_48 : decode cX3_init 48 = .ok (.aload_n 0, 1) := by decide +kernel
theorem dX3_init_49 : decode cX3_init 49 = .ok (.new 9, 3) := by decide +kernel
theorem dX3_init_52 : decode cX3_init 52 = .ok (.dup, 1) := by decide +kernel
theorem dX3_init_53 : decode cX3_init 53 = .ok (.invokespecial 11, 3) := by decide +kernel
theorem dX3_init_56 : decode cX3_init 56 = .ok (.putfield 27, 3) := by decide +kernel
theorem dX3_init_59 : decode cX3_init 59 = .ok (.aload_n 0, 1) := by decide +kernel
theorem dX3_init_60 : decode cX3_init 60 = .ok (.new 9, 3) := by decide +kernel
theorem dX3_init_63 : decode cX3_init 63 = .ok (.dup, 1) := by decide +kernel
theorem dX3_init_64 : decode cX3_init 64 = .ok (.invokespecial 11, 3) := by decide +kernel
theorem dX3_init_67 : decode cX3_init 67 = .ok (.putfield 30, 3) := by decide +kernel
theorem dX3_init_70 : decode cX3_init 70 = .ok (.aload_n 0, 1) := by decide +kernel
theorem dX3_init_71 : decode cX3_init 71 = .ok (.new 9, 3) := by decide +kernel
theorem dX3_init_74 : decode cX3_init 74 = .ok (.dup, 1) := by decide +kernel
theorem dX3_init_75 : decode cX3_init 75 = .ok (.invokespecial 11, 3) := by decide +kernel
theorem dX3_init_78 : decode cX3_init 78 = .ok (.putfield 33, 3) := by decide +kernel
theorem dX3_init_81 : decode cX3_init 81 = .ok (.aload_n 0, 1) := by decide +kernel
theorem dX3_init_82 : decode cX3_init 82 = .ok (.new 9, 3) := by decide +kernel
theorem dX3_init_85 : decode cX3_init 85 = .ok (.dup, 1) := by decide +kernel
theorem dX3_init_86 : decode cX3_init 86 = .ok (.invokespecial 11, 3) := by decide +kernel
theorem dX3_init_89 : decode cX3_init 89 = .ok (.putfield 36, 3) := by decide +kernel
theorem dX3_init_92 : decode cX3_init 92 = .ok (.aload_n 0, 1) := by decide +kernel
theorem dX3_init_93 : decode cX3_init 93 = .ok (.iconst 2, 1) := by decide +kernel
theorem dX3_init_94 : decode cX3_init 94 = .ok (.putfield 39, 3) := by decide +kernel
theorem dX3_init_97 : decode cX3_init 97 = .ok (.aload_n 0, 1) := by decide +kernel
theorem dX3_init_98 : decode cX3_init 98 = .ok (.iconst 0, 1) := by decide +kernel
theorem dX3_init_99 : decode cX3_init 99 = .ok (.putfield 43, 3) := by decide +kernel
theorem dX3_init_102 : decode cX3_init 102 = .ok (.aload_n 0, 1) := by decide +kernel
theorem dX3_init_103 : decode cX3_init 103 = .ok (.iconst 0, 1) := by decide +kernel
theorem dX3_init_104 : decode cX3_init 104 = .ok (.putfield 46, 3) := by decide +kernel
theorem dX3_init_107 : decode cX3_init 107 = .ok (.aload_n 0, 1) := by decide +kernel
theorem dX3_init_108 : decode cX3_init 108 = .ok (.iconst 0, 1) := by decide +kernel
theorem dX3_init_109 : decode cX3_init 109 = .ok (.putfield 49, 3) := by decide +kernel
theorem dX3_init_112 : decode cX3_init 112 = .ok (.return_, 1) := by decide +kernel
theorem dX3_part_0 : decode cX3_part 0 = .ok (.aload_n 0, 1) := by decide +kernel
theorem dX3_part_1 : decode cX3_part 1 = .ok (.iload_n 2, 1) := by decide +kernel
theorem dX3_part_2 : decode cX3_part 2 = .ok (.putfield 39, 3) := by decide +kernel
theorem dX3_part_5 : decode cX3_part 5 = .ok (.aload_n 0, 1) := by decide +kernel
theorem dX3_part_6 : decode cX3_part 6 = .ok (.iconst 0, 1) := by decide +kernel
theorem dX3_part_7 : decode cX3_part 7 = .ok (.putfield 43, 3) := by decide +kernel
theorem dX3_part_10 : decode cX3_part 10 = .ok (.aload_n 0, 1) := by decide +kernel
theorem dX3_part_11 : decode cX3_part 11 = .ok (.iconst 0, 1) := by decide +kernel
theorem dX3_part_12 : decode cX3_part 12 = .ok (.putfield 46, 3) := by decide +kernel
theorem dX3_part_15 : decode cX3_part 15 = .ok (.aload_n 0, 1) := by decide +kernel
theorem dX3_part_16 : decode cX3_part 16 = .ok (.iconst 0, 1) := by decide +kernel
theorem dX3_part_17 : decode cX3_part 17 = .ok (.putfield 49, 3) := by decide +kernel
theorem dX3_part_20 : decode cX3_part 20 = .ok (.aload_n 0, 1) := by decide +kernel
theorem dX3_part_21 : decode cX3_part 21 = .ok (.getfield 12, 3) := by decide +kernel
theorem dX3_part_24 : decode cX3_part 24 = .ok (.aload_n 1, 1) := by decide +kernel
theorem dX3_part_25 : decode cX3_part 25 = .ok (.aload_n 0, 1) := by decide +kernel
theorem dX3_part_26 : decode cX3_part 26 = .ok (.getfield 39, 3) := by decide +kernel
theorem dX3_part_29 : decode cX3_part 29 = .ok (.invokevirtual 52, 3) := by decide +kernel
theorem dX3_part_32 : decode cX3_part 32 = .ok (.aload_n 0, 1) := by decide +kernel
theorem dX3_part_33 : decode cX3_part 33 = .ok (.getfield 18, 3) := by decide +kernel
theorem dX3_part_36 : decode cX3_part 36 = .ok (.invokevirtual 56, 3) := by decide +kernel
theorem dX3_part_39 : decode cX3_part 39 = .ok (.iconst 1, 1) := by decide +kernel
theorem dX3_part_40 : decode cX3_part 40 = .ok (.istore_n 3, 1) := by decide +kernel
theorem dX3_part_41 : decode cX3_part 41 = .ok (.iload_n 3, 1) := by decide +kernel
theorem dX3_part_42 : decode cX3_part 42 = .ok (.aload_n 1, 1) := by decide +kernel
theorem dX3_part_43 : decode cX3_part 43 = .ok (.getfield 59, 3) := by decide +kernel
theorem dX3_part_46 : decode cX3_part 46 = .ok (.if_icmp .gt 91, 3) := by decide +kernel
theorem dX3_part_49 : decode cX3_part 49 = .ok (.aload_n 0, 1) := by decide +kernel
theorem dX3_part_50 : decode cX3_part 50 = .ok (.getfield 12, 3) := by decide +kernel
theorem dX3_part_53 : decode cX3_part 53 = .ok (.getfield 64, 3) := by decide +kernel
theorem dX3_part_56 : decode cX3_part 56 = .ok (.ifCond .le 81, 3) := by decide +kernel
theorem dX3_part_59 : decode cX3_part 59 = .ok (.aload_n 0, 1) := by decide +kernel
theorem dX3_part_60 : decode cX3_part 60 = .ok (.invokevirtual 67, 3) := by decide +kernel
theorem dX3_part_63 : decode cX3_part 63 = .ok (.aload_n 0, 1) := by decide +kernel
theorem dX3_part_64 : decode cX3_part 64 = .ok (.getfield 30, 3) := by decide +kernel
theorem dX3_part_67 : decode cX3_part 67 = .ok (.aload_n 0, 1) := by decide +kernel
theorem dX3_part_68 : decode cX3_part 68 = .ok (.getfield 18, 3) := by decide +kernel
theorem dX3_part_71 : decode cX3_part 71 = .ok (.invokevirtual 70, 3) := by decide +kernel
theorem dX3_part_74 : decode cX3_part 74 = .ok (.aload_n 0, 1) := by decide +kernel
theorem dX3_part_75 : decode cX3_part 75 = .ok (.getfield 30, 3) := by decide +kernel
theorem dX3_part_78 : decode cX3_part 78 = .ok (.aload_n 0, 1) := by decide +kernel
theorem dX3_part_79 : decode cX3_part 79 = .ok (.getfield 39, 3) := by decide +kernel
theorem dX3_part_82 : decode cX3_part 82 = .ok (.invokevirtual 74, 3) := by decide +kernel
theorem dX3_part_85 : decode cX3_part 85 = .ok (.aload_n 0, 1) := by decide +kernel
theorem dX3_part_86 : decode cX3_part 86 = .ok (.invokevirtual 78, 3) := by decide +kernel
theorem dX3_part_89 : decode cX3_part 89 = .ok (.aload_n 0, 1) := by decide +kernel
theorem dX3_part_90 : decode cX3_part 90 = .ok (.getfield 33, 3) := by decide +kernel
theorem dX3_part_93 : decode cX3_part 93 = .ok (.getfield 64, 3) := by decide +kernel
theorem dX3_part_96 : decode cX3_part 96 = .ok (.ifCond .le 35, 3) := by decide +kernel
theorem dX3_part_99 : decode cX3_part 99 = .ok (.aload_n 0, 1) := by decide +kernel
theorem dX3_part_100 : decode cX3_part 100 = .ok (.dup, 1) := by decide +kernel
theorem dX3_part_101 : decode cX3_part 101 = .ok (.getfield 49, 3) := by decide +kernel
theorem dX3_part_104 : decode cX3_part 104 = .ok (.aload_n 0, 1) := by decide +kernel
theorem dX3_part_105 : decode cX3_part 105 = .ok (.getfield 33, 3) := by decide +kernel
theorem dX3_part_108 : decode cX3_part 108 = .ok (.getfield 64, 3) := by decide +kernel
theorem dX3_part_111 : decode cX3_part 111 = .ok (.iload_n 3, 1) := by decide +kernel
theorem dX3_part_112 : decode cX3_part 112 = .ok (.idiv, 1) := by decide +kernel
theorem dX3_part_113 : decode cX3_part 113 = .ok (.iadd, 1) := by decide +kernel
theorem dX3_part_114 : decode cX3_part 114 = .ok (.putfield 49, 3) := by decide +kernel
theorem dX3_part_117 : decode cX3_part 117 = .ok (.aload_n 0, 1) := by decide +kernel
theorem dX3_part_118 : decode cX3_part 118 = .ok (.iload_n 3, 1) := by decide +kernel
theorem dX3_part_119 : decode cX3_part 119 = .ok (.putfield 46, 3) := by decide +kernel
theorem dX3_part_122 : decode cX3_part 122 = .ok (.aload_n 0, 1) := by decide +kernel
theorem dX3_part_123 : decode cX3_part 123 = .ok (.iload_n 3, 1) := by decide +kernel
theorem dX3_part_124 : decode cX3_part 124 = .ok (.aload_n 1, 1) := by decide +kernel
theorem dX3_part_125 : decode cX3_part 125 = .ok (.getfield 59, 3) := by decide +kernel
theorem dX3_part_128 : decode cX3_part 128 = .ok (.invokevirtual 81, 3) := by decide +kernel
theorem dX3_part_131 : decode cX3_part 131 = .ok (.iinc 3 1, 3) := by decide +kernel
theorem dX3_part_134 : decode cX3_part 134 = .ok (.goto (-93), 3) := by decide +kernel
theorem dX3_part_137 : decode cX3_part 137 = .ok (.return_, 1) := by decide +kernel
theorem dX3_takeOut_0 : decode cX3_takeOut 0 = .ok (.iconst 0, 1) := by decide +kernel
theorem dX3_takeOut_1 : decode cX3_takeOut 1 = .ok (.istore_n 3, 1) := by decide +kernel
theorem dX3_takeOut_2 : decode cX3_takeOut 2 = .ok (.iload_n 3, 1) := by decide +kernel
theorem dX3_takeOut_3 : decode cX3_takeOut 3 = .ok (.iload_n 2, 1) := by decide +kernel
theorem dX3_takeOut_4 : decode cX3_takeOut 4 = .ok (.if_icmp .ge 82, 3) := by decide +kernel
theorem dX3_takeOut_7 : decode cX3_takeOut 7 = .ok (.aload_n 0, 1) := by decide +kernel
theorem dX3_takeOut_8 : decode cX3_takeOut 8 = .ok (.getfield 33, 3) := by decide +kernel
theorem dX3_takeOut_11 : decode cX3_takeOut 11 = .ok (.getfield 64, 3) := by decide +kernel
theorem dX3_takeOut_14 : decode cX3_takeOut 14 = .ok (.ifCond .le 72, 3) := by decide +kernel
theorem dX3_takeOut_17 : decode cX3_takeOut 17 = .ok (.aload_n 0, 1) := by decide +kernel
theorem dX3_takeOut_18 : decode cX3_takeOut 18 = .ok (.dup, 1) := by decide +kernel
theorem dX3_takeOut_19 : decode cX3_takeOut 19 = .ok (.getfield 43, 3) := by decide +kernel
theorem dX3_takeOut_22 : decode cX3_takeOut 22 = .ok (.aload_n 0, 1) := by decide +kernel
theorem dX3_takeOut_23 : decode cX3_takeOut 23 = .ok (.getfield 33, 3) := by decide +kernel
theorem dX3_takeOut_26 : decode cX3_takeOut 26 = .ok (.getfield 64, 3) := by decide +kernel
theorem dX3_takeOut_29 : decode cX3_takeOut 29 = .ok (.iload_n 1, 1) := by decide +kernel
theorem dX3_takeOut_30 : decode cX3_takeOut 30 = .ok (.idiv, 1) := by decide +kernel
theorem dX3_takeOut_31 : decode cX3_takeOut 31 = .ok (.iadd, 1) := by decide +kernel
theorem dX3_takeOut_32 : decode cX3_takeOut 32 = .ok (.putfield 43, 3) := by decide +kernel
theorem dX3_takeOut_35 : decode cX3_takeOut 35 = .ok (.aload_n 0, 1) := by decide +kernel
theorem dX3_takeOut_36 : decode cX3_takeOut 36 = .ok (.getfield 36, 3) := by decide +kernel
theorem dX3_takeOut_39 : decode cX3_takeOut 39 = .ok (.aload_n 0, 1) := by decide +kernel
theorem dX3_takeOut_40 : decode cX3_takeOut 40 = .ok (.getfield 12, 3) := by decide +kernel
theorem dX3_takeOut_43 : decode cX3_takeOut 43 = .ok (.invokevirtual 70, 3) := by decide +kernel
theorem dX3_takeOut_46 : decode cX3_takeOut 46 = .ok (.aload_n 0, 1) := by decide +kernel
theorem dX3_takeOut_47 : decode cX3_takeOut 47 = .ok (.getfield 36, 3) := by decide +kernel
theorem dX3_takeOut_50 : decode cX3_takeOut 50 = .ok (.aload_n 0, 1) := by decide +kernel
theorem dX3_takeOut_51 : decode cX3_takeOut 51 = .ok (.getfield 33, 3) := by decide +kernel
theorem dX3_takeOut_54 : decode cX3_takeOut 54 = .ok (.aload_n 0, 1) := by decide +kernel
theorem dX3_takeOut_55 : decode cX3_takeOut 55 = .ok (.getfield 39, 3) := by decide +kernel
theorem dX3_takeOut_58 : decode cX3_takeOut 58 = .ok (.aload_n 0, 1) := by decide +kernel
theorem dX3_takeOut_59 : decode cX3_takeOut 59 = .ok (.getfield 27, 3) := by decide +kernel
theorem dX3_takeOut_62 : decode cX3_takeOut 62 = .ok (.invokevirtual 85, 3) := by decide +kernel
theorem dX3_takeOut_65 : decode cX3_takeOut 65 = .ok (.aload_n 0, 1) := by decide +kernel
theorem dX3_takeOut_66 : decode cX3_takeOut 66 = .ok (.getfield 12, 3) := by decide +kernel
theorem dX3_takeOut_69 : decode cX3_takeOut 69 = .ok (.aload_n 0, 1) := by decide +kernel
theorem dX3_takeOut_70 : decode cX3_takeOut 70 = .ok (.getfield 27, 3) := by decide +kernel
theorem dX3_takeOut_73 : decode cX3_takeOut 73 = .ok (.invokevirtual 70, 3) := by decide +kernel
theorem dX3_takeOut_76 : decode cX3_takeOut 76 = .ok (.aload_n 0, 1) := by decide +kernel
theorem dX3_takeOut_77 : decode cX3_takeOut 77 = .ok (.invokevirtual 78, 3) := by decide +kernel
theorem dX3_takeOut_80 : decode cX3_takeOut 80 = .ok (.iinc 3 1, 3) := by decide +kernel
theorem dX3_takeOut_83 : decode cX3_takeOut 83 = .ok (.goto (-81), 3) := by decide +kernel
theorem dX3_takeOut_86 : decode cX3_takeOut 86 = .ok (.return_, 1) := by decide +kernel
theorem dX3_raisePower_0 : decode cX3_raisePower 0 = .ok (.aload_n 0, 1) := by decide +kernel
theorem dX3_raisePower_1 : decode cX3_raisePower 1 = .ok (.getfield 21, 3) := by decide +kernel
theorem dX3_raisePower_4 : decode cX3_raisePower 4 = .ok (.aload_n 0, 1) := by decide +kernel
theorem dX3_raisePower_5 : decode cX3_raisePower 5 = .ok (.getfield 18, 3) := by decide +kernel
theorem dX3_raisePower_8 : decode cX3_raisePower 8 = .ok (.invokevirtual 70, 3) := by decide +kernel
theorem dX3_raisePower_11 : decode cX3_raisePower 11 = .ok (.aload_n 0, 1) := by decide +kernel
theorem dX3_raisePower_12 : decode cX3_raisePower 12 = .ok (.getfield 18, 3) := by decide +kernel
theorem dX3_raisePower_15 : decode cX3_raisePower 15 = .ok (.invokevirtual 89, 3) := by decide +kernel
theorem dX3_raisePower_18 : decode cX3_raisePower 18 = .ok (.bipush 6, 2) := by decide +kernel
theorem dX3_raisePower_20 : decode cX3_raisePower 20 = .ok (.istore_n 1, 1) := by decide +kernel
theorem dX3_raisePower_21 : decode cX3_raisePower 21 = .ok (.iload_n 1, 1) := by decide +kernel
theorem dX3_raisePower_22 : decode cX3_raisePower 22 = .ok (.ifCond .lt 37, 3) := by decide +kernel
theorem dX3_raisePower_25 : decode cX3_raisePower 25 = .ok (.aload_n 0, 1) := by decide +kernel
theorem dX3_raisePower_26 : decode cX3_raisePower 26 = .ok (.aload_n 0, 1) := by decide +kernel
theorem dX3_raisePower_27 : decode cX3_raisePower 27 = .ok (.getfield 18, 3) := by decide +kernel
theorem dX3_raisePower_30 : decode cX3_raisePower 30 = .ok (.invokevirtual 92, 3) := by decide +kernel
theorem dX3_raisePower_33 : decode cX3_raisePower 33 = .ok (.aload_n 0, 1) := by decide +kernel
theorem dX3_raisePower_34 : decode cX3_raisePower 34 = .ok (.getfield 39, 3) := by decide +kernel
theorem dX3_raisePower_37 : decode cX3_raisePower 37 = .ok (.iload_n 1, 1) := by decide +kernel
theorem dX3_raisePower_38 : decode cX3_raisePower 38 = .ok (.ishr, 1) := by decide +kernel
theorem dX3_raisePower_39 : decode cX3_raisePower 39 = .ok (.iconst 1, 1) := by decide +kernel
theorem dX3_raisePower_40 : decode cX3_raisePower 40 = .ok (.iand, 1) := by decide +kernel
theorem dX3_raisePower_41 : decode cX3_raisePower 41 = .ok (.iconst 1, 1) := by decide +kernel
theorem dX3_raisePower_42 : decode cX3_raisePower 42 = .ok (.if_icmp .ne 11, 3) := by decide +kernel
theorem dX3_raisePower_45 : decode cX3_raisePower 45 = .ok (.aload_n 0, 1) := by decide +kernel
theorem dX3_raisePower_46 : decode cX3_raisePower 46 = .ok (.aload_n 0, 1) := by decide +kernel
theorem dX3_raisePower_47 : decode cX3_raisePower 47 = .ok (.getfield 21, 3) := by decide +kernel
theorem dX3_raisePower_50 : decode cX3_raisePower 50 = .ok (.invokevirtual 92, 3) := by decide +kernel
theorem dX3_raisePower_53 : decode cX3_raisePower 53 = .ok (.iinc 1 (-1), 3) := by decide +kernel
theorem dX3_raisePower_56 : decode cX3_raisePower 56 = .ok (.goto (-35), 3) := by decide +kernel
theorem dX3_raisePower_59 : decode cX3_raisePower 59 = .ok (.return_, 1) := by decide +kernel
theorem dX3_timesPower_0 : decode cX3_timesPower 0 = .ok (.aload_n 0, 1) := by decide +kernel
theorem dX3_timesPower_1 : decode cX3_timesPower 1 = .ok (.getfield 24, 3) := by decide +kernel
theorem dX3_timesPower_4 : decode cX3_timesPower 4 = .ok (.aload_n 0, 1) := by decide +kernel
theorem dX3_timesPower_5 : decode cX3_timesPower 5 = .ok (.getfield 18, 3) := by decide +kernel
theorem dX3_timesPower_8 : decode cX3_timesPower 8 = .ok (.aload_n 1, 1) := by decide +kernel
theorem dX3_timesPower_9 : decode cX3_timesPower 9 = .ok (.aload_n 0, 1) := by decide +kernel
theorem dX3_timesPower_10 : decode cX3_timesPower 10 = .ok (.getfield 39, 3) := by decide +kernel
theorem dX3_timesPower_13 : decode cX3_timesPower 13 = .ok (.invokevirtual 95, 3) := by decide +kernel
theorem dX3_timesPower_16 : decode cX3_timesPower 16 = .ok (.aload_n 0, 1) := by decide +kernel
theorem dX3_timesPower_17 : decode cX3_timesPower 17 = .ok (.getfield 24, 3) := by decide +kernel
theorem dX3_timesPower_20 : decode cX3_timesPower 20 = .ok (.aload_n 0, 1) := by decide +kernel
theorem dX3_timesPower_21 : decode cX3_timesPower 21 = .ok (.getfield 12, 3) := by decide +kernel
theorem dX3_timesPower_24 : decode cX3_timesPower 24 = .ok (.aload_n 0, 1) := by decide +kernel
theorem dX3_timesPower_25 : decode cX3_timesPower 25 = .ok (.getfield 39, 3) := by decide +kernel
theorem dX3_timesPower_28 : decode cX3_timesPower 28 = .ok (.aload_n 0, 1) := by decide +kernel
theorem dX3_timesPower_29 : decode cX3_timesPower 29 = .ok (.getfield 27, 3) := by decide +kernel
theorem dX3_timesPower_32 : decode cX3_timesPower 32 = .ok (.invokevirtual 85, 3) := by decide +kernel
theorem dX3_timesPower_35 : decode cX3_timesPower 35 = .ok (.aload_n 0, 1) := by decide +kernel
theorem dX3_timesPower_36 : decode cX3_timesPower 36 = .ok (.getfield 18, 3) := by decide +kernel
theorem dX3_timesPower_39 : decode cX3_timesPower 39 = .ok (.aload_n 0, 1) := by decide +kernel
theorem dX3_timesPower_40 : decode cX3_timesPower 40 = .ok (.getfield 24, 3) := by decide +kernel
theorem dX3_timesPower_43 : decode cX3_timesPower 43 = .ok (.invokevirtual 70, 3) := by decide +kernel
theorem dX3_timesPower_46 : decode cX3_timesPower 46 = .ok (.return_, 1) := by decide +kernel
theorem dX3_share_0 : decode cX3_share 0 = .ok (.aload_n 0, 1) := by decide +kernel
theorem dX3_share_1 : decode cX3_share 1 = .ok (.getfield 33, 3) := by decide +kernel
theorem dX3_share_4 : decode cX3_share 4 = .ok (.aload_n 0, 1) := by decide +kernel
theorem dX3_share_5 : decode cX3_share 5 = .ok (.getfield 12, 3) := by decide +kernel
theorem dX3_share_8 : decode cX3_share 8 = .ok (.invokevirtual 70, 3) := by decide +kernel
theorem dX3_share_11 : decode cX3_share 11 = .ok (.aload_n 0, 1) := by decide +kernel
theorem dX3_share_12 : decode cX3_share 12 = .ok (.getfield 36, 3) := by decide +kernel
theorem dX3_share_15 : decode cX3_share 15 = .ok (.aload_n 0, 1) := by decide +kernel
theorem dX3_share_16 : decode cX3_share 16 = .ok (.getfield 30, 3) := by decide +kernel
theorem dX3_share_19 : decode cX3_share 19 = .ok (.invokevirtual 70, 3) := by decide +kernel
theorem dX3_share_22 : decode cX3_share 22 = .ok (.iconst 0, 1) := by decide +kernel
theorem dX3_share_23 : decode cX3_share 23 = .ok (.istore_n 1, 1) := by decide +kernel
theorem dX3_share_24 : decode cX3_share 24 = .ok (.iload_n 1, 1) := by decide +kernel
theorem dX3_share_25 : decode cX3_share 25 = .ok (.bipush 12, 2) := by decide +kernel
theorem dX3_share_27 : decode cX3_share 27 = .ok (.if_icmp .gt 71, 3) := by decide +kernel
theorem dX3_share_30 : decode cX3_share 30 = .ok (.aload_n 0, 1) := by decide +kernel
theorem dX3_share_31 : decode cX3_share 31 = .ok (.getfield 36, 3) := by decide +kernel
theorem dX3_share_34 : decode cX3_share 34 = .ok (.getfield 64, 3) := by decide +kernel
theorem dX3_share_37 : decode cX3_share 37 = .ok (.ifCond .lt 61, 3) := by decide +kernel
theorem dX3_share_40 : decode cX3_share 40 = .ok (.aload_n 0, 1) := by decide +kernel
theorem dX3_share_41 : decode cX3_share 41 = .ok (.getfield 33, 3) := by decide +kernel
theorem dX3_share_44 : decode cX3_share 44 = .ok (.aload_n 0, 1) := by decide +kernel
theorem dX3_share_45 : decode cX3_share 45 = .ok (.getfield 36, 3) := by decide +kernel
theorem dX3_share_48 : decode cX3_share 48 = .ok (.aload_n 0, 1) := by decide +kernel
theorem dX3_share_49 : decode cX3_share 49 = .ok (.getfield 39, 3) := by decide +kernel
theorem dX3_share_52 : decode cX3_share 52 = .ok (.aload_n 0, 1) := by decide +kernel
theorem dX3_share_53 : decode cX3_share 53 = .ok (.getfield 27, 3) := by decide +kernel
theorem dX3_share_56 : decode cX3_share 56 = .ok (.invokevirtual 85, 3) := by decide +kernel
theorem dX3_share_59 : decode cX3_share 59 = .ok (.aload_n 0, 1) := by decide +kernel
theorem dX3_share_60 : decode cX3_share 60 = .ok (.getfield 24, 3) := by decide +kernel
theorem dX3_share_63 : decode cX3_share 63 = .ok (.aload_n 0, 1) := by decide +kernel
theorem dX3_share_64 : decode cX3_share 64 = .ok (.getfield 33, 3) := by decide +kernel
theorem dX3_share_67 : decode cX3_share 67 = .ok (.invokevirtual 70, 3) := by decide +kernel
theorem dX3_share_70 : decode cX3_share 70 = .ok (.aload_n 0, 1) := by decide +kernel
theorem dX3_share_71 : decode cX3_share 71 = .ok (.getfield 33, 3) := by decide +kernel
theorem dX3_share_74 : decode cX3_share 74 = .ok (.aload_n 0, 1) := by decide +kernel
theorem dX3_share_75 : decode cX3_share 75 = .ok (.getfield 36, 3) := by decide +kernel
theorem dX3_share_78 : decode cX3_share 78 = .ok (.invokevirtual 70, 3) := by decide +kernel
theorem dX3_share_81 : decode cX3_share 81 = .ok (.aload_n 0, 1) := by decide +kernel
theorem dX3_share_82 : decode cX3_share 82 = .ok (.getfield 36, 3) := by decide +kernel
theorem dX3_share_85 : decode cX3_share 85 = .ok (.aload_n 0, 1) := by decide +kernel
theorem dX3_share_86 : decode cX3_share 86 = .ok (.getfield 24, 3) := by decide +kernel
theorem dX3_share_89 : decode cX3_share 89 = .ok (.invokevirtual 70, 3) := by decide +kernel
theorem dX3_share_92 : decode cX3_share 92 = .ok (.iinc 1 1, 3) := by decide +kernel
theorem dX3_share_95 : decode cX3_share 95 = .ok (.goto (-71), 3) := by decide +kernel
theorem dX3_share_98 : decode cX3_share 98 = .ok (.return_, 1) := by decide +kernel
theorem dX4_init_0 : decode cX4_init 0 = .ok (.aload_n 0, 1) := by decide +kernel
theorem dX4_init_1 : decode cX4_init 1 = .ok (.invokespecial 3, 3) := by decide +kernel
theorem dX4_init_4 : decode cX4_init 4 = .ok (.aload_n 0, 1) := by decide +kernel
theorem dX4_init_5 : decode cX4_init 5 = .ok (.bipush 13, 2) := by decide +kernel
theorem dX4_init_7 : decode cX4_init 7 = .ok (.newarray .int, 2) := by decide +kernel
theorem dX4_init_9 : decode cX4_init 9 = .ok (.putfield 11, 3) := by decide +kernel
theorem dX4_init_12 : decode cX4_init 12 = .ok (.aload_n 0, 1) := by decide +kernel
theorem dX4_init_13 : decode cX4_init 13 = .ok (.iconst (-1), 1) := by decide +kernel
theorem dX4_init_14 : decode cX4_init 14 = .ok (.putfield 15, 3) := by decide +kernel
theorem dX4_init_17 : decode cX4_init 17 = .ok (.return_, 1) := by decide +kernel
theorem dX4_become_0 : decode cX4_become 0 = .ok (.aload_n 1, 1) := by decide +kernel
theorem dX4_become_1 : decode cX4_become 1 = .ok (.getfield 11, 3) := by decide +kernel
theorem dX4_become_4 : decode cX4_become 4 = .ok (.iconst 0, 1) := by decide +kernel
theorem dX4_become_5 : decode cX4_become 5 = .ok (.aload_n 0, 1) := by decide +kernel
theorem dX4_become_6 : decode cX4_become 6 = .ok (.getfield 11, 3) := by decide +kernel
theorem dX4_become_9 : decode cX4_become 9 = .ok (.iconst 0, 1) := by decide +kernel
theorem dX4_become_10 : decode cX4_become 10 = .ok (.aload_n 0, 1) := by decide +kernel
theorem dX4_become_11 : decode cX4_become 11 = .ok (.getfield 11, 3) := by decide +kernel
theorem dX4_become_14 : decode cX4_become 14 = .ok (.arraylength, 1) := by decide +kernel
theorem dX4_become_15 : decode cX4_become 15 = .ok (.invokestatic 19, 3) := by decide +kernel
theorem dX4_become_18 : decode cX4_become 18 = .ok (.aload_n 0, 1) := by decide +kernel
theorem dX4_become_19 : decode cX4_become 19 = .ok (.aload_n 1, 1) := by decide +kernel
theorem dX4_become_20 : decode cX4_become 20 = .ok (.getfield 15, 3) := by decide +kernel
theorem dX4_become_23 : decode cX4_become 23 = .ok (.putfield 15, 3) := by decide +kernel
theorem dX4_become_26 : decode cX4_become 26 = .ok (.return_, 1) := by decide +kernel
theorem dX4_becomeLaw_0 : decode cX4_becomeLaw 0 = .ok (.aload_n 0, 1) := by decide +kernel
theorem dX4_becomeLaw_1 : decode cX4_becomeLaw 1 = .ok (.invokevirtual 25, 3) := by decide +kernel
theorem dX4_becomeLaw_4 : decode cX4_becomeLaw 4 = .ok (.iconst 0, 1) := by decide +kernel
theorem dX4_becomeLaw_5 : decode cX4_becomeLaw 5 = .ok (.istore_n 3, 1) := by decide +kernel
theorem dX4_becomeLaw_6 : decode cX4_becomeLaw 6 = .ok (.iload_n 3, 1) := by decide +kernel
theorem dX4_becomeLaw_7 : decode cX4_becomeLaw 7 = .ok (.aload_n 1, 1) := by decide +kernel
theorem dX4_becomeLaw_8 : decode cX4_becomeLaw 8 = .ok (.getfield 28, 3) := by decide +kernel
theorem dX4_becomeLaw_11 : decode cX4_becomeLaw 11 = .ok (.if_icmp .gt 33, 3) := by decide +kernel
theorem dX4_becomeLaw_14 : decode cX4_becomeLaw 14 = .ok (.aload_n 0, 1) := by decide +kernel
theorem dX4_becomeLaw_15 : decode cX4_becomeLaw 15 = .ok (.getfield 11, 3) := by decide +kernel
theorem dX4_becomeLaw_18 : decode cX4_becomeLaw 18 = .ok (.aload_n 1, 1) := by decide +kernel
theorem dX4_becomeLaw_19 : decode cX4_becomeLaw 19 = .ok (.getfield 28, 3) := by decide +kernel
theorem dX4_becomeLaw_22 : decode cX4_becomeLaw 22 = .ok (.iload_n 3, 1) := by decide +kernel
theorem dX4_becomeLaw_23 : decode cX4_becomeLaw 23 = .ok (.isub, 1) := by decide +kernel
theorem dX4_becomeLaw_24 : decode cX4_becomeLaw 24 = .ok (.aload_n 1, 1) := by decide +kernel
theorem dX4_becomeLaw_25 : decode cX4_becomeLaw 25 = .ok (.getfield 33, 3) := by decide +kernel
theorem dX4_becomeLaw_28 : decode cX4_becomeLaw 28 = .ok (.iload_n 3, 1) := by decide +kernel
theorem dX4_becomeLaw_29 : decode cX4_becomeLaw 29 = .ok (.laload, 1) := by decide +kernel
theorem dX4_becomeLaw_30 : decode cX4_becomeLaw 30 = .ok (.lneg, 1) := by decide +kernel
theorem dX4_becomeLaw_31 : decode cX4_becomeLaw 31 = .ok (.iload_n 2, 1) := by decide +kernel
theorem dX4_becomeLaw_32 : decode cX4_becomeLaw 32 = .ok (.i2l, 1) := by decide +kernel
theorem dX4_becomeLaw_33 : decode cX4_becomeLaw 33 = .ok (.invokestatic 37, 3) := by decide +kernel
theorem dX4_becomeLaw_36 : decode cX4_becomeLaw 36 = .ok (.l2i, 1) := by decide +kernel
theorem dX4_becomeLaw_37 : decode cX4_becomeLaw 37 = .ok (.iastore, 1) := by decide +kernel
theorem dX4_becomeLaw_38 : decode cX4_becomeLaw 38 = .ok (.iinc 3 1, 3) := by decide +kernel
theorem dX4_becomeLaw_41 : decode cX4_becomeLaw 41 = .ok (.goto (-35), 3) := by decide +kernel
theorem dX4_becomeLaw_44 : decode cX4_becomeLaw 44 = .ok (.aload_n 0, 1) := by decide +kernel
theorem dX4_becomeLaw_45 : decode cX4_becomeLaw 45 = .ok (.aload_n 1, 1) := by decide +kernel
theorem dX4_becomeLaw_46 : decode cX4_becomeLaw 46 = .ok (.getfield 28, 3) := by decide +kernel
theorem dX4_becomeLaw_49 : decode cX4_becomeLaw 49 = .ok (.putfield 15, 3) := by decide +kernel
theorem dX4_becomeLaw_52 : decode cX4_becomeLaw 52 = .ok (.return_, 1) := by decide +kernel
theorem dX4_becomeOne_0 : decode cX4_becomeOne 0 = .ok (.aload_n 0, 1) := by decide +kernel
theorem dX4_becomeOne_1 : decode cX4_becomeOne 1 = .ok (.invokevirtual 25, 3) := by decide +kernel
theorem dX4_becomeOne_4 : decode cX4_becomeOne 4 = .ok (.aload_n 0, 1) := by decide +kernel
theorem dX4_becomeOne_5 : decode cX4_becomeOne 5 = .ok (.getfield 11, 3) := by decide +kernel
theorem dX4_becomeOne_8 : decode cX4_becomeOne 8 = .ok (.iconst 0, 1) := by decide +kernel
theorem dX4_becomeOne_9 : decode cX4_becomeOne 9 = .ok (.iconst 1, 1) := by decide +kernel
theorem dX4_becomeOne_10 : decode cX4_becomeOne 10 = .ok (.iastore, 1) := by decide +kernel
theorem dX4_becomeOne_11 : decode cX4_becomeOne 11 = .ok (.aload_n 0, 1) := by decide +kernel
theorem dX4_becomeOne_12 : decode cX4_becomeOne 12 = .ok (.iconst 0, 1) := by decide +kernel
theorem dX4_becomeOne_13 : decode cX4_becomeOne 13 = .ok (.putfield 15, 3) := by decide +kernel
theorem dX4_becomeOne_16 : decode cX4_becomeOne 16 = .ok (.return_, 1) := by decide +kernel
theorem dX4_becomeZ_0 : decode cX4_becomeZ 0 = .ok (.aload_n 0, 1) := by decide +kernel
theorem dX4_becomeZ_1 : decode cX4_becomeZ 1 = .ok (.invokevirtual 25, 3) := by decide +kernel
theorem dX4_becomeZ_4 : decode cX4_becomeZ 4 = .ok (.aload_n 0, 1) := by decide +kernel
theorem dX4_becomeZ_5 : decode cX4_becomeZ 5 = .ok (.getfield 11, 3) := by decide +kernel
theorem dX4_becomeZ_8 : decode cX4_becomeZ 8 = .ok (.iconst 1, 1) := by decide +kernel
theorem dX4_becomeZ_9 : decode cX4_becomeZ 9 = .ok (.iconst 1, 1) := by decide +kernel
theorem dX4_becomeZ_10 : decode cX4_becomeZ 10 = .ok (.iastore, 1) := by decide +kernel
theorem dX4_becomeZ_11 : decode cX4_becomeZ 11 = .ok (.aload_n 0, 1) := by decide +kernel
theorem dX4_becomeZ_12 : decode cX4_becomeZ 12 = .ok (.iconst 1, 1) := by decide +kernel
theorem dX4_becomeZ_13 : decode cX4_becomeZ 13 = .ok (.putfield 15, 3) := by decide +kernel
theorem dX4_becomeZ_16 : decode cX4_becomeZ 16 = .ok (.return_, 1) := by decide +kernel
theorem dX4_lessZ_0 : decode cX4_lessZ 0 = .ok (.aload_n 0, 1) := by decide +kernel
theorem dX4_lessZ_1 : decode cX4_lessZ 1 = .ok (.getfield 11, 3) := by decide +kernel
theorem dX4_lessZ_4 : decode cX4_lessZ 4 = .ok (.iconst 1, 1) := by decide +kernel
theorem dX4_lessZ_5 : decode cX4_lessZ 5 = .ok (.aload_n 0, 1) := by decide +kernel
theorem dX4_lessZ_6 : decode cX4_lessZ 6 = .ok (.getfield 11, 3) := by decide +kernel
theorem dX4_lessZ_9 : decode cX4_lessZ 9 = .ok (.iconst 1, 1) := by decide +kernel
theorem dX4_lessZ_10 : decode cX4_lessZ 10 = .ok (.iaload, 1) := by decide +kernel
theorem dX4_lessZ_11 : decode cX4_lessZ 11 = .ok (.iload_n 1, 1) := by decide +kernel
theorem dX4_lessZ_12 : decode cX4_lessZ 12 = .ok (.iadd, 1) := by decide +kernel
theorem dX4_lessZ_13 : decode cX4_lessZ 13 = .ok (.iconst 1, 1) := by decide +kernel
theorem dX4_lessZ_14 : decode cX4_lessZ 14 = .ok (.isub, 1) := by decide +kernel
theorem dX4_lessZ_15 : decode cX4_lessZ 15 = .ok (.iload_n 1, 1) := by decide +kernel
theorem dX4_lessZ_16 : decode cX4_lessZ 16 = .ok (.irem, 1) := by decide +kernel
theorem dX4_lessZ_17 : decode cX4_lessZ 17 = .ok (.iastore, 1) := by decide +kernel
theorem dX4_lessZ_18 : decode cX4_lessZ 18 = .ok (.aload_n 0, 1) := by decide +kernel
theorem dX4_lessZ_19 : decode cX4_lessZ 19 = .ok (.aload_n 0, 1) := by decide +kernel
theorem dX4_lessZ_20 : decode cX4_lessZ 20 = .ok (.getfield 15, 3) := by decide +kernel
theorem dX4_lessZ_23 : decode cX4_lessZ 23 = .ok (.iconst 1, 1) := by decide +kernel
theorem dX4_lessZ_24 : decode cX4_lessZ 24 = .ok (.invokestatic 43, 3) := by decide +kernel
theorem dX4_lessZ_27 : decode cX4_lessZ 27 = .ok (.invokevirtual 47, 3) := by decide +kernel
theorem dX4_lessZ_30 : decode cX4_lessZ 30 = .ok (.return_, 1) := by decide +kernel
theorem dX4_becomeProduct_0 : decode cX4_becomeProduct 0 = .ok (.aload_n 0, 1) := by decide +kernel
theorem dX4_becomeProduct_1 : decode cX4_becomeProduct 1 = .ok (.invokevirtual 25, 3) := by decide +kernel
theorem dX4_becomeProduct_4 : decode cX4_becomeProduct 4 = .ok (.iconst 0, 1) := by decide +kernel
theorem dX4_becomeProduct_5 : decode cX4_becomeProduct 5 = .ok (.istore 4, 2) := by decide +kernel
theorem dX4_becomeProduct_7 : decode cX4_becomeProduct 7 = .ok (.iload 4, 2) := by decide +kernel
theorem dX4_becomeProduct_9 : decode cX4_becomeProduct 9 = .ok (.aload_n 1, 1) := by decide +kernel
theorem dX4_becomeProduct_10 : decode cX4_becomeProduct 10 = .ok (.getfield 15, 3) := by decide +kernel
theorem dX4_becomeProduct_13 : decode cX4_becomeProduct 13 = .ok (.if_icmp .gt 65, 3) := by decide +kernel
theorem dX4_becomeProduct_16 : decode cX4_becomeProduct 16 = .ok (.iconst 0, 1) := by decide +kernel
theorem dX4_becomeProduct_17 : decode cX4_becomeProduct 17 = .ok (.istore 5, 2) := by decide +kernel
theorem dX4_becomeProduct_19 : decode cX4_becomeProduct 19 = .ok (.iload 5, 2) := by decide +kernel
theorem dX4_becomeProduct_21 : decode cX4_becomeProduct 21 = .ok (.aload_n 2, 1) := by decide +kernel
theorem dX4_becomeProduct_22 : decode cX4_becomeProduct 22 = .ok (.getfield 15, 3) := by decide +kernel
