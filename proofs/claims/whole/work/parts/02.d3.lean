theorem dX10_fault_1 : decode cX10_fault 1 = .ok (.getfield 10, 3) := by decide +kernel
theorem dX10_fault_4 : decode cX10_fault 4 = .ok (.invokevirtual 80, 3) := by decide +kernel
theorem dX10_fault_7 : decode cX10_fault 7 = .ok (.ireturn, 1) := by decide +kernel
theorem dX10_take_0 : decode cX10_take 0 = .ok (.iload_n 1, 1) := by decide +kernel
theorem dX10_take_1 : decode cX10_take 1 = .ok (.invokestatic 84, 3) := by decide +kernel
theorem dX10_take_4 : decode cX10_take 4 = .ok (.ifCond .ne 5, 3) := by decide +kernel
theorem dX10_take_7 : decode cX10_take 7 = .ok (.iconst (-1), 1) := by decide +kernel
theorem dX10_take_8 : decode cX10_take 8 = .ok (.ireturn, 1) := by decide +kernel
theorem dX10_take_9 : decode cX10_take 9 = .ok (.aload_n 0, 1) := by decide +kernel
theorem dX10_take_10 : decode cX10_take 10 = .ok (.getfield 10, 3) := by decide +kernel
theorem dX10_take_13 : decode cX10_take 13 = .ok (.invokevirtual 80, 3) := by decide +kernel
theorem dX10_take_16 : decode cX10_take 16 = .ok (.bipush (-4), 2) := by decide +kernel
theorem dX10_take_18 : decode cX10_take 18 = .ok (.if_icmp .eq 6, 3) := by decide +kernel
theorem dX10_take_21 : decode cX10_take 21 = .ok (.bipush (-2), 2) := by decide +kernel
theorem dX10_take_23 : decode cX10_take 23 = .ok (.ireturn, 1) := by decide +kernel
theorem dX10_take_24 : decode cX10_take 24 = .ok (.aload_n 0, 1) := by decide +kernel
theorem dX10_take_25 : decode cX10_take 25 = .ok (.getfield 18, 3) := by decide +kernel
theorem dX10_take_28 : decode cX10_take 28 = .ok (.iload_n 1, 1) := by decide +kernel
theorem dX10_take_29 : decode cX10_take 29 = .ok (.aaload, 1) := by decide +kernel
theorem dX10_take_30 : decode cX10_take 30 = .ok (.aload_n 0, 1) := by decide +kernel
theorem dX10_take_31 : decode cX10_take 31 = .ok (.getfield 10, 3) := by decide +kernel
theorem dX10_take_34 : decode cX10_take 34 = .ok (.getfield 88, 3) := by decide +kernel
theorem dX10_take_37 : decode cX10_take 37 = .ok (.invokevirtual 92, 3) := by decide +kernel
theorem dX10_take_40 : decode cX10_take 40 = .ok (.aload_n 0, 1) := by decide +kernel
theorem dX10_take_41 : decode cX10_take 41 = .ok (.getfield 18, 3) := by decide +kernel
theorem dX10_take_44 : decode cX10_take 44 = .ok (.iload_n 1, 1) := by decide +kernel
theorem dX10_take_45 : decode cX10_take 45 = .ok (.aaload, 1) := by decide +kernel
theorem dX10_take_46 : decode cX10_take 46 = .ok (.getfield 96, 3) := by decide +kernel
theorem dX10_take_49 : decode cX10_take 49 = .ok (.ireturn, 1) := by decide +kernel
theorem dX10_told_0 : decode cX10_told 0 = .ok (.iload_n 1, 1) := by decide +kernel
theorem dX10_told_1 : decode cX10_told 1 = .ok (.invokestatic 84, 3) := by decide +kernel
theorem dX10_told_4 : decode cX10_told 4 = .ok (.ifCond .ne 6, 3) := by decide +kernel
theorem dX10_told_7 : decode cX10_told 7 = .ok (.ldc 99, 2) := by decide +kernel
theorem dX10_told_9 : decode cX10_told 9 = .ok (.ireturn, 1) := by decide +kernel
theorem dX10_told_10 : decode cX10_told 10 = .ok (.aload_n 0, 1) := by decide +kernel
theorem dX10_told_11 : decode cX10_told 11 = .ok (.getfield 18, 3) := by decide +kernel
theorem dX10_told_14 : decode cX10_told 14 = .ok (.iload_n 1, 1) := by decide +kernel
theorem dX10_told_15 : decode cX10_told 15 = .ok (.aaload, 1) := by decide +kernel
theorem dX10_told_16 : decode cX10_told 16 = .ok (.astore 4, 2) := by decide +kernel
theorem dX10_told_18 : decode cX10_told 18 = .ok (.iload_n 2, 1) := by decide +kernel
theorem dX10_told_19 : decode cX10_told 19 = .ok (.ifCond .ne 9, 3) := by decide +kernel
theorem dX10_told_22 : decode cX10_told 22 = .ok (.aload 4, 2) := by decide +kernel
theorem dX10_told_24 : decode cX10_told 24 = .ok (.getfield 96, 3) := by decide +kernel
theorem dX10_told_27 : decode cX10_told 27 = .ok (.ireturn, 1) := by decide +kernel
theorem dX10_told_28 : decode cX10_told 28 = .ok (.iload_n 2, 1) := by decide +kernel
theorem dX10_told_29 : decode cX10_told 29 = .ok (.iconst 1, 1) := by decide +kernel
theorem dX10_told_30 : decode cX10_told 30 = .ok (.if_icmp .ne 25, 3) := by decide +kernel
theorem dX10_told_33 : decode cX10_told 33 = .ok (.iload_n 3, 1) := by decide +kernel
theorem dX10_told_34 : decode cX10_told 34 = .ok (.iconst 1, 1) := by decide +kernel
theorem dX10_told_35 : decode cX10_told 35 = .ok (.aload 4, 2) := by decide +kernel
theorem dX10_told_37 : decode cX10_told 37 = .ok (.getfield 96, 3) := by decide +kernel
theorem dX10_told_40 : decode cX10_told 40 = .ok (.invokestatic 100, 3) := by decide +kernel
theorem dX10_told_43 : decode cX10_told 43 = .ok (.ifCond .eq 12, 3) := by decide +kernel
theorem dX10_told_46 : decode cX10_told 46 = .ok (.aload 4, 2) := by decide +kernel
theorem dX10_told_48 : decode cX10_told 48 = .ok (.getfield 104, 3) := by decide +kernel
theorem dX10_told_51 : decode cX10_told 51 = .ok (.iload_n 3, 1) := by decide +kernel
theorem dX10_told_52 : decode cX10_told 52 = .ok (.laload, 1) := by decide +kernel
theorem dX10_told_53 : decode cX10_told 53 = .ok (.l2i, 1) := by decide +kernel
theorem dX10_told_54 : decode cX10_told 54 = .ok (.ireturn, 1) := by decide +kernel
theorem dX10_told_55 : decode cX10_told 55 = .ok (.iload_n 2, 1) := by decide +kernel
theorem dX10_told_56 : decode cX10_told 56 = .ok (.iconst 2, 1) := by decide +kernel
theorem dX10_told_57 : decode cX10_told 57 = .ok (.if_icmp .ne 27, 3) := by decide +kernel
theorem dX10_told_60 : decode cX10_told 60 = .ok (.iload_n 3, 1) := by decide +kernel
theorem dX10_told_61 : decode cX10_told 61 = .ok (.iconst 0, 1) := by decide +kernel
theorem dX10_told_62 : decode cX10_told 62 = .ok (.aload 4, 2) := by decide +kernel
theorem dX10_told_64 : decode cX10_told 64 = .ok (.getfield 96, 3) := by decide +kernel
theorem dX10_told_67 : decode cX10_told 67 = .ok (.iconst 1, 1) := by decide +kernel
theorem dX10_told_68 : decode cX10_told 68 = .ok (.isub, 1) := by decide +kernel
theorem dX10_told_69 : decode cX10_told 69 = .ok (.invokestatic 100, 3) := by decide +kernel
theorem dX10_told_72 : decode cX10_told 72 = .ok (.ifCond .eq 12, 3) := by decide +kernel
theorem dX10_told_75 : decode cX10_told 75 = .ok (.aload 4, 2) := by decide +kernel
theorem dX10_told_77 : decode cX10_told 77 = .ok (.getfield 107, 3) := by decide +kernel
theorem dX10_told_80 : decode cX10_told 80 = .ok (.iload_n 3, 1) := by decide +kernel
theorem dX10_told_81 : decode cX10_told 81 = .ok (.laload, 1) := by decide +kernel
theorem dX10_told_82 : decode cX10_told 82 = .ok (.l2i, 1) := by decide +kernel
theorem dX10_told_83 : decode cX10_told 83 = .ok (.ireturn, 1) := by decide +kernel
theorem dX10_told_84 : decode cX10_told 84 = .ok (.ldc 99, 2) := by decide +kernel
theorem dX10_told_86 : decode cX10_told 86 = .ok (.ireturn, 1) := by decide +kernel
theorem dX10_exact_0 : decode cX10_exact 0 = .ok (.iload_n 1, 1) := by decide +kernel
theorem dX10_exact_1 : decode cX10_exact 1 = .ok (.invokestatic 84, 3) := by decide +kernel
theorem dX10_exact_4 : decode cX10_exact 4 = .ok (.ifCond .eq 14, 3) := by decide +kernel
theorem dX10_exact_7 : decode cX10_exact 7 = .ok (.iload_n 2, 1) := by decide +kernel
theorem dX10_exact_8 : decode cX10_exact 8 = .ok (.iconst 0, 1) := by decide +kernel
theorem dX10_exact_9 : decode cX10_exact 9 = .ok (.sipush 2000, 3) := by decide +kernel
theorem dX10_exact_12 : decode cX10_exact 12 = .ok (.invokestatic 100, 3) := by decide +kernel
theorem dX10_exact_15 : decode cX10_exact 15 = .ok (.ifCond .ne 7, 3) := by decide +kernel
theorem dX10_exact_18 : decode cX10_exact 18 = .ok (.ldc2_w 110, 3) := by decide +kernel
theorem dX10_exact_21 : decode cX10_exact 21 = .ok (.lreturn, 1) := by decide +kernel
theorem dX10_exact_22 : decode cX10_exact 22 = .ok (.aload_n 0, 1) := by decide +kernel
theorem dX10_exact_23 : decode cX10_exact 23 = .ok (.getfield 18, 3) := by decide +kernel
theorem dX10_exact_26 : decode cX10_exact 26 = .ok (.iload_n 1, 1) := by decide +kernel
theorem dX10_exact_27 : decode cX10_exact 27 = .ok (.aaload, 1) := by decide +kernel
theorem dX10_exact_28 : decode cX10_exact 28 = .ok (.aload_n 0, 1) := by decide +kernel
theorem dX10_exact_29 : decode cX10_exact 29 = .ok (.getfield 64, 3) := by decide +kernel
theorem dX10_exact_32 : decode cX10_exact 32 = .ok (.iload_n 2, 1) := by decide +kernel
theorem dX10_exact_33 : decode cX10_exact 33 = .ok (.invokevirtual 112, 3) := by decide +kernel
theorem dX10_exact_36 : decode cX10_exact 36 = .ok (.iload_n 2, 1) := by decide +kernel
theorem dX10_exact_37 : decode cX10_exact 37 = .ok (.if_icmp .le 12, 3) := by decide +kernel
theorem dX10_exact_40 : decode cX10_exact 40 = .ok (.aload_n 0, 1) := by decide +kernel
theorem dX10_exact_41 : decode cX10_exact 41 = .ok (.getfield 64, 3) := by decide +kernel
theorem dX10_exact_44 : decode cX10_exact 44 = .ok (.iload_n 2, 1) := by decide +kernel
theorem dX10_exact_45 : decode cX10_exact 45 = .ok (.laload, 1) := by decide +kernel
theorem dX10_exact_46 : decode cX10_exact 46 = .ok (.goto 6, 3) := by decide +kernel
theorem dX10_exact_49 : decode cX10_exact 49 = .ok (.ldc2_w 116, 3) := by decide +kernel
theorem dX10_exact_52 : decode cX10_exact 52 = .ok (.lreturn, 1) := by decide +kernel
theorem dX10_rest_0 : decode cX10_rest 0 = .ok (.iload_n 1, 1) := by decide +kernel
theorem dX10_rest_1 : decode cX10_rest 1 = .ok (.invokestatic 84, 3) := by decide +kernel
theorem dX10_rest_4 : decode cX10_rest 4 = .ok (.ifCond .eq 23, 3) := by decide +kernel
theorem dX10_rest_7 : decode cX10_rest 7 = .ok (.iload_n 2, 1) := by decide +kernel
theorem dX10_rest_8 : decode cX10_rest 8 = .ok (.iconst 0, 1) := by decide +kernel
theorem dX10_rest_9 : decode cX10_rest 9 = .ok (.ldc 118, 2) := by decide +kernel
theorem dX10_rest_11 : decode cX10_rest 11 = .ok (.invokestatic 100, 3) := by decide +kernel
theorem dX10_rest_14 : decode cX10_rest 14 = .ok (.ifCond .eq 13, 3) := by decide +kernel
theorem dX10_rest_17 : decode cX10_rest 17 = .ok (.iload_n 3, 1) := by decide +kernel
theorem dX10_rest_18 : decode cX10_rest 18 = .ok (.iconst 2, 1) := by decide +kernel
theorem dX10_rest_19 : decode cX10_rest 19 = .ok (.ldc 119, 2) := by decide +kernel
theorem dX10_rest_21 : decode cX10_rest 21 = .ok (.invokestatic 100, 3) := by decide +kernel
theorem dX10_rest_24 : decode cX10_rest 24 = .ok (.ifCond .ne 5, 3) := by decide +kernel
theorem dX10_rest_27 : decode cX10_rest 27 = .ok (.iconst (-1), 1) := by decide +kernel
theorem dX10_rest_28 : decode cX10_rest 28 = .ok (.ireturn, 1) := by decide +kernel
theorem dX10_rest_29 : decode cX10_rest 29 = .ok (.aload_n 0, 1) := by decide +kernel
theorem dX10_rest_30 : decode cX10_rest 30 = .ok (.getfield 32, 3) := by decide +kernel
theorem dX10_rest_33 : decode cX10_rest 33 = .ok (.aload_n 0, 1) := by decide +kernel
theorem dX10_rest_34 : decode cX10_rest 34 = .ok (.getfield 18, 3) := by decide +kernel
theorem dX10_rest_37 : decode cX10_rest 37 = .ok (.iload_n 1, 1) := by decide +kernel
theorem dX10_rest_38 : decode cX10_rest 38 = .ok (.aaload, 1) := by decide +kernel
theorem dX10_rest_39 : decode cX10_rest 39 = .ok (.iload_n 2, 1) := by decide +kernel
theorem dX10_rest_40 : decode cX10_rest 40 = .ok (.iload_n 3, 1) := by decide +kernel
theorem dX10_rest_41 : decode cX10_rest 41 = .ok (.invokevirtual 120, 3) := by decide +kernel
theorem dX10_rest_44 : decode cX10_rest 44 = .ok (.ireturn, 1) := by decide +kernel
theorem dX10_round_0 : decode cX10_round 0 = .ok (.iload_n 1, 1) := by decide +kernel
theorem dX10_round_1 : decode cX10_round 1 = .ok (.invokestatic 84, 3) := by decide +kernel
theorem dX10_round_4 : decode cX10_round 4 = .ok (.ifCond .eq 23, 3) := by decide +kernel
theorem dX10_round_7 : decode cX10_round 7 = .ok (.iload_n 2, 1) := by decide +kernel
theorem dX10_round_8 : decode cX10_round 8 = .ok (.iconst 2, 1) := by decide +kernel
theorem dX10_round_9 : decode cX10_round 9 = .ok (.sipush 1000, 3) := by decide +kernel
theorem dX10_round_12 : decode cX10_round 12 = .ok (.invokestatic 100, 3) := by decide +kernel
theorem dX10_round_15 : decode cX10_round 15 = .ok (.ifCond .eq 12, 3) := by decide +kernel
theorem dX10_round_18 : decode cX10_round 18 = .ok (.iload_n 3, 1) := by decide +kernel
theorem dX10_round_19 : decode cX10_round 19 = .ok (.iconst 0, 1) := by decide +kernel
theorem dX10_round_20 : decode cX10_round 20 = .ok (.iconst 2, 1) := by decide +kernel
theorem dX10_round_21 : decode cX10_round 21 = .ok (.invokestatic 100, 3) := by decide +kernel
theorem dX10_round_24 : decode cX10_round 24 = .ok (.ifCond .ne 5, 3) := by decide +kernel
theorem dX10_round_27 : decode cX10_round 27 = .ok (.iconst (-1), 1) := by decide +kernel
theorem dX10_round_28 : decode cX10_round 28 = .ok (.ireturn, 1) := by decide +kernel
theorem dX10_round_29 : decode cX10_round 29 = .ok (.aload_n 0, 1) := by decide +kernel
theorem dX10_round_30 : decode cX10_round 30 = .ok (.getfield 39, 3) := by decide +kernel
theorem dX10_round_33 : decode cX10_round 33 = .ok (.aload_n 0, 1) := by decide +kernel
theorem dX10_round_34 : decode cX10_round 34 = .ok (.getfield 18, 3) := by decide +kernel
theorem dX10_round_37 : decode cX10_round 37 = .ok (.iload_n 1, 1) := by decide +kernel
theorem dX10_round_38 : decode cX10_round 38 = .ok (.aaload, 1) := by decide +kernel
theorem dX10_round_39 : decode cX10_round 39 = .ok (.iload_n 2, 1) := by decide +kernel
theorem dX10_round_40 : decode cX10_round 40 = .ok (.invokevirtual 124, 3) := by decide +kernel
theorem dX10_round_43 : decode cX10_round 43 = .ok (.ifCond .ne 6, 3) := by decide +kernel
theorem dX10_round_46 : decode cX10_round 46 = .ok (.bipush (-5), 2) := by decide +kernel
theorem dX10_round_48 : decode cX10_round 48 = .ok (.ireturn, 1) := by decide +kernel
theorem dX10_round_49 : decode cX10_round 49 = .ok (.iload_n 3, 1) := by decide +kernel
theorem dX10_round_50 : decode cX10_round 50 = .ok (.ifCond .ne 11, 3) := by decide +kernel
theorem dX10_round_53 : decode cX10_round 53 = .ok (.aload_n 0, 1) := by decide +kernel
theorem dX10_round_54 : decode cX10_round 54 = .ok (.getfield 39, 3) := by decide +kernel
theorem dX10_round_57 : decode cX10_round 57 = .ok (.getfield 128, 3) := by decide +kernel
theorem dX10_round_60 : decode cX10_round 60 = .ok (.ireturn, 1) := by decide +kernel
theorem dX10_round_61 : decode cX10_round 61 = .ok (.iload_n 3, 1) := by decide +kernel
theorem dX10_round_62 : decode cX10_round 62 = .ok (.iconst 1, 1) := by decide +kernel
theorem dX10_round_63 : decode cX10_round 63 = .ok (.if_icmp .ne 13, 3) := by decide +kernel
theorem dX10_round_66 : decode cX10_round 66 = .ok (.aload_n 0, 1) := by decide +kernel
theorem dX10_round_67 : decode cX10_round 67 = .ok (.getfield 39, 3) := by decide +kernel
theorem dX10_round_70 : decode cX10_round 70 = .ok (.getfield 131, 3) := by decide +kernel
theorem dX10_round_73 : decode cX10_round 73 = .ok (.goto 17, 3) := by decide +kernel
theorem dX10_round_76 : decode cX10_round 76 = .ok (.aload_n 0, 1) := by decide +kernel
theorem dX10_round_77 : decode cX10_round 77 = .ok (.getfield 39, 3) := by decide +kernel
theorem dX10_round_80 : decode cX10_round 80 = .ok (.aload_n 0, 1) := by decide +kernel
theorem dX10_round_81 : decode cX10_round 81 = .ok (.getfield 18, 3) := by decide +kernel
theorem dX10_round_84 : decode cX10_round 84 = .ok (.iload_n 1, 1) := by decide +kernel
theorem dX10_round_85 : decode cX10_round 85 = .ok (.aaload, 1) := by decide +kernel
theorem dX10_round_86 : decode cX10_round 86 = .ok (.iload_n 2, 1) := by decide +kernel
theorem dX10_round_87 : decode cX10_round 87 = .ok (.invokevirtual 134, 3) := by decide +kernel
theorem dX10_round_90 : decode cX10_round 90 = .ok (.ireturn, 1) := by decide +kernel
theorem dX10_first_0 : decode cX10_first 0 = .ok (.iload_n 1, 1) := by decide +kernel
theorem dX10_first_1 : decode cX10_first 1 = .ok (.invokestatic 84, 3) := by decide +kernel
theorem dX10_first_4 : decode cX10_first 4 = .ok (.ifCond .eq 25, 3) := by decide +kernel
theorem dX10_first_7 : decode cX10_first 7 = .ok (.iload_n 2, 1) := by decide +kernel
theorem dX10_first_8 : decode cX10_first 8 = .ok (.iconst 2, 1) := by decide +kernel
theorem dX10_first_9 : decode cX10_first 9 = .ok (.sipush 1000, 3) := by decide +kernel
theorem dX10_first_12 : decode cX10_first 12 = .ok (.invokestatic 100, 3) := by decide +kernel
theorem dX10_first_15 : decode cX10_first 15 = .ok (.ifCond .eq 14, 3) := by decide +kernel
theorem dX10_first_18 : decode cX10_first 18 = .ok (.iload_n 3, 1) := by decide +kernel
theorem dX10_first_19 : decode cX10_first 19 = .ok (.iconst 0, 1) := by decide +kernel
theorem dX10_first_20 : decode cX10_first 20 = .ok (.iload_n 2, 1) := by decide +kernel
theorem dX10_first_21 : decode cX10_first 21 = .ok (.iconst 1, 1) := by decide +kernel
theorem dX10_first_22 : decode cX10_first 22 = .ok (.isub, 1) := by decide +kernel
theorem dX10_first_23 : decode cX10_first 23 = .ok (.invokestatic 100, 3) := by decide +kernel
theorem dX10_first_26 : decode cX10_first 26 = .ok (.ifCond .ne 5, 3) := by decide +kernel
theorem dX10_first_29 : decode cX10_first 29 = .ok (.iconst (-1), 1) := by decide +kernel
theorem dX10_first_30 : decode cX10_first 30 = .ok (.ireturn, 1) := by decide +kernel
theorem dX10_first_31 : decode cX10_first 31 = .ok (.aload_n 0, 1) := by decide +kernel
theorem dX10_first_32 : decode cX10_first 32 = .ok (.getfield 39, 3) := by decide +kernel
theorem dX10_first_35 : decode cX10_first 35 = .ok (.aload_n 0, 1) := by decide +kernel
theorem dX10_first_36 : decode cX10_first 36 = .ok (.getfield 18, 3) := by decide +kernel
theorem dX10_first_39 : decode cX10_first 39 = .ok (.iload_n 1, 1) := by decide +kernel
theorem dX10_first_40 : decode cX10_first 40 = .ok (.aaload, 1) := by decide +kernel
theorem dX10_first_41 : decode cX10_first 41 = .ok (.iload_n 2, 1) := by decide +kernel
theorem dX10_first_42 : decode cX10_first 42 = .ok (.invokevirtual 124, 3) := by decide +kernel
theorem dX10_first_45 : decode cX10_first 45 = .ok (.ifCond .ne 6, 3) := by decide +kernel
theorem dX10_first_48 : decode cX10_first 48 = .ok (.bipush (-5), 2) := by decide +kernel
theorem dX10_first_50 : decode cX10_first 50 = .ok (.ireturn, 1) := by decide +kernel
theorem dX10_first_51 : decode cX10_first 51 = .ok (.aload_n 0, 1) := by decide +kernel
theorem dX10_first_52 : decode cX10_first 52 = .ok (.getfield 39, 3) := by decide +kernel
theorem dX10_first_55 : decode cX10_first 55 = .ok (.aload_n 0, 1) := by decide +kernel
theorem dX10_first_56 : decode cX10_first 56 = .ok (.getfield 18, 3) := by decide +kernel
theorem dX10_first_59 : decode cX10_first 59 = .ok (.iload_n 1, 1) := by decide +kernel
theorem dX10_first_60 : decode cX10_first 60 = .ok (.aaload, 1) := by decide +kernel
theorem dX10_first_61 : decode cX10_first 61 = .ok (.iload_n 2, 1) := by decide +kernel
theorem dX10_first_62 : decode cX10_first 62 = .ok (.iload_n 3, 1) := by decide +kernel
theorem dX10_first_63 : decode cX10_first 63 = .ok (.invokevirtual 138, 3) := by decide +kernel
theorem dX10_first_66 : decode cX10_first 66 = .ok (.ireturn, 1) := by decide +kernel
theorem dX10_back_0 : decode cX10_back 0 = .ok (.iload_n 1, 1) := by decide +kernel
theorem dX10_back_1 : decode cX10_back 1 = .ok (.invokestatic 84, 3) := by decide +kernel
theorem dX10_back_4 : decode cX10_back 4 = .ok (.ifCond .eq 23, 3) := by decide +kernel
theorem dX10_back_7 : decode cX10_back 7 = .ok (.iload_n 2, 1) := by decide +kernel
theorem dX10_back_8 : decode cX10_back 8 = .ok (.iconst 1, 1) := by decide +kernel
theorem dX10_back_9 : decode cX10_back 9 = .ok (.ldc 119, 2) := by decide +kernel
theorem dX10_back_11 : decode cX10_back 11 = .ok (.invokestatic 100, 3) := by decide +kernel
theorem dX10_back_14 : decode cX10_back 14 = .ok (.ifCond .eq 13, 3) := by decide +kernel
theorem dX10_back_17 : decode cX10_back 17 = .ok (.iload_n 3, 1) := by decide +kernel
theorem dX10_back_18 : decode cX10_back 18 = .ok (.iconst 2, 1) := by decide +kernel
theorem dX10_back_19 : decode cX10_back 19 = .ok (.ldc 119, 2) := by decide +kernel
theorem dX10_back_21 : decode cX10_back 21 = .ok (.invokestatic 100, 3) := by decide +kernel
theorem dX10_back_24 : decode cX10_back 24 = .ok (.ifCond .ne 5, 3) := by decide +kernel
theorem dX10_back_27 : decode cX10_back 27 = .ok (.iconst (-1), 1) := by decide +kernel
theorem dX10_back_28 : decode cX10_back 28 = .ok (.ireturn, 1) := by decide +kernel
theorem dX10_back_29 : decode cX10_back 29 = .ok (.aload_n 0, 1) := by decide +kernel
theorem dX10_back_30 : decode cX10_back 30 = .ok (.getfield 18, 3) := by decide +kernel
theorem dX10_back_33 : decode cX10_back 33 = .ok (.iload_n 1, 1) := by decide +kernel
theorem dX10_back_34 : decode cX10_back 34 = .ok (.aaload, 1) := by decide +kernel
theorem dX10_back_35 : decode cX10_back 35 = .ok (.astore 4, 2) := by decide +kernel
theorem dX10_back_37 : decode cX10_back 37 = .ok (.aload 4, 2) := by decide +kernel
theorem dX10_back_39 : decode cX10_back 39 = .ok (.getfield 104, 3) := by decide +kernel
theorem dX10_back_42 : decode cX10_back 42 = .ok (.aload 4, 2) := by decide +kernel
theorem dX10_back_44 : decode cX10_back 44 = .ok (.getfield 96, 3) := by decide +kernel
theorem dX10_back_47 : decode cX10_back 47 = .ok (.laload, 1) := by decide +kernel
theorem dX10_back_48 : decode cX10_back 48 = .ok (.iload_n 3, 1) := by decide +kernel
theorem dX10_back_49 : decode cX10_back 49 = .ok (.i2l, 1) := by decide +kernel
theorem dX10_back_50 : decode cX10_back 50 = .ok (.invokestatic 141, 3) := by decide +kernel
theorem dX10_back_53 : decode cX10_back 53 = .ok (.lconst 1, 1) := by decide +kernel
theorem dX10_back_54 : decode cX10_back 54 = .ok (.lcmp, 1) := by decide +kernel
theorem dX10_back_55 : decode cX10_back 55 = .ok (.ifCond .eq 6, 3) := by decide +kernel
theorem dX10_back_58 : decode cX10_back 58 = .ok (.bipush (-2), 2) := by decide +kernel
theorem dX10_back_60 : decode cX10_back 60 = .ok (.ireturn, 1) := by decide +kernel
theorem dX10_back_61 : decode cX10_back 61 = .ok (.aload_n 0, 1) := by decide +kernel
theorem dX10_back_62 : decode cX10_back 62 = .ok (.getfield 32, 3) := by decide +kernel
theorem dX10_back_65 : decode cX10_back 65 = .ok (.aload 4, 2) := by decide +kernel
theorem dX10_back_67 : decode cX10_back 67 = .ok (.iload_n 2, 1) := by decide +kernel
theorem dX10_back_68 : decode cX10_back 68 = .ok (.iload_n 3, 1) := by decide +kernel
theorem dX10_back_69 : decode cX10_back 69 = .ok (.invokevirtual 145, 3) := by decide +kernel
theorem dX10_back_72 : decode cX10_back 72 = .ok (.ireturn, 1) := by decide +kernel
theorem dX10_roots_0 : decode cX10_roots 0 = .ok (.iload_n 1, 1) := by decide +kernel
theorem dX10_roots_1 : decode cX10_roots 1 = .ok (.invokestatic 84, 3) := by decide +kernel
theorem dX10_roots_4 : decode cX10_roots 4 = .ok (.ifCond .eq 15, 3) := by decide +kernel
theorem dX10_roots_7 : decode cX10_roots 7 = .ok (.iload_n 2, 1) := by decide +kernel
theorem dX10_roots_8 : decode cX10_roots 8 = .ok (.invokestatic 148, 3) := by decide +kernel
theorem dX10_roots_11 : decode cX10_roots 11 = .ok (.ifCond .eq 8, 3) := by decide +kernel
theorem dX10_roots_14 : decode cX10_roots 14 = .ok (.iload_n 3, 1) := by decide +kernel
theorem dX10_roots_15 : decode cX10_roots 15 = .ok (.iconst (-1), 1) := by decide +kernel
theorem dX10_roots_16 : decode cX10_roots 16 = .ok (.if_icmp .ge 5, 3) := by decide +kernel
theorem dX10_roots_19 : decode cX10_roots 19 = .ok (.iconst (-1), 1) := by decide +kernel
theorem dX10_roots_20 : decode cX10_roots 20 = .ok (.ireturn, 1) := by decide +kernel
theorem dX10_roots_21 : decode cX10_roots 21 = .ok (.iconst 0, 1) := by decide +kernel
theorem dX10_roots_22 : decode cX10_roots 22 = .ok (.istore 4, 2) := by decide +kernel
theorem dX10_roots_24 : decode cX10_roots 24 = .ok (.iconst 0, 1) := by decide +kernel
theorem dX10_roots_25 : decode cX10_roots 25 = .ok (.istore 5, 2) := by decide +kernel
theorem dX10_roots_27 : decode cX10_roots 27 = .ok (.iload 5, 2) := by decide +kernel
theorem dX10_roots_29 : decode cX10_roots 29 = .ok (.iload_n 2, 1) := by decide +kernel
theorem dX10_roots_30 : decode cX10_roots 30 = .ok (.if_icmp .ge 36, 3) := by decide +kernel
theorem dX10_roots_33 : decode cX10_roots 33 = .ok (.aload_n 0, 1) := by decide +kernel
theorem dX10_roots_34 : decode cX10_roots 34 = .ok (.getfield 18, 3) := by decide +kernel
theorem dX10_roots_37 : decode cX10_roots 37 = .ok (.iload_n 1, 1) := by decide +kernel
theorem dX10_roots_38 : decode cX10_roots 38 = .ok (.aaload, 1) := by decide +kernel
theorem dX10_roots_39 : decode cX10_roots 39 = .ok (.iload 5, 2) := by decide +kernel
theorem dX10_roots_41 : decode cX10_roots 41 = .ok (.iload_n 2, 1) := by decide +kernel
theorem dX10_roots_42 : decode cX10_roots 42 = .ok (.invokevirtual 151, 3) := by decide +kernel
theorem dX10_roots_45 : decode cX10_roots 45 = .ok (.ifCond .eq 15, 3) := by decide +kernel
theorem dX10_roots_48 : decode cX10_roots 48 = .ok (.iload 4, 2) := by decide +kernel
theorem dX10_roots_50 : decode cX10_roots 50 = .ok (.iload_n 3, 1) := by decide +kernel
theorem dX10_roots_51 : decode cX10_roots 51 = .ok (.if_icmp .ne 6, 3) := by decide +kernel
theorem dX10_roots_54 : decode cX10_roots 54 = .ok (.iload 5, 2) := by decide +kernel
theorem dX10_roots_56 : decode cX10_roots 56 = .ok (.ireturn, 1) := by decide +kernel
theorem dX10_roots_57 : decode cX10_roots 57 = .ok (.iinc 4 1, 3) := by decide +kernel
theorem dX10_roots_60 : decode cX10_roots 60 = .ok (.iinc 5 1, 3) := by decide +kernel
theorem dX10_roots_63 : decode cX10_roots 63 = .ok (.goto (-36), 3) := by decide +kernel
theorem dX10_roots_66 : decode cX10_roots 66 = .ok (.iload_n 3, 1) := by decide +kernel
theorem dX10_roots_67 : decode cX10_roots 67 = .ok (.iconst (-1), 1) := by decide +kernel
theorem dX10_roots_68 : decode cX10_roots 68 = .ok (.if_icmp .ne 8, 3) := by decide +kernel
theorem dX10_roots_71 : decode cX10_roots 71 = .ok (.iload 4, 2) := by decide +kernel
theorem dX10_roots_73 : decode cX10_roots 73 = .ok (.goto 5, 3) := by decide +kernel
theorem dX10_roots_76 : decode cX10_roots 76 = .ok (.bipush (-4), 2) := by decide +kernel
theorem dX10_roots_78 : decode cX10_roots 78 = .ok (.ireturn, 1) := by decide +kernel
theorem dX10_longest_0 : decode cX10_longest 0 = .ok (.iload_n 1, 1) := by decide +kernel
theorem dX10_longest_1 : decode cX10_longest 1 = .ok (.iconst 1, 1) := by decide +kernel
theorem dX10_longest_2 : decode cX10_longest 2 = .ok (.iconst 3, 1) := by decide +kernel
theorem dX10_longest_3 : decode cX10_longest 3 = .ok (.invokestatic 100, 3) := by decide +kernel
theorem dX10_longest_6 : decode cX10_longest 6 = .ok (.ifCond .eq 25, 3) := by decide +kernel
theorem dX10_longest_9 : decode cX10_longest 9 = .ok (.iload_n 2, 1) := by decide +kernel
theorem dX10_longest_10 : decode cX10_longest 10 = .ok (.invokestatic 148, 3) := by decide +kernel
theorem dX10_longest_13 : decode cX10_longest 13 = .ok (.ifCond .eq 18, 3) := by decide +kernel
theorem dX10_longest_16 : decode cX10_longest 16 = .ok (.iload_n 2, 1) := by decide +kernel
theorem dX10_longest_17 : decode cX10_longest 17 = .ok (.bipush 7, 2) := by decide +kernel
theorem dX10_longest_19 : decode cX10_longest 19 = .ok (.if_icmp .gt 12, 3) := by decide +kernel
theorem dX10_longest_22 : decode cX10_longest 22 = .ok (.iload_n 3, 1) := by decide +kernel
theorem dX10_longest_23 : decode cX10_longest 23 = .ok (.iconst 0, 1) := by decide +kernel
theorem dX10_longest_24 : decode cX10_longest 24 = .ok (.iconst 4, 1) := by decide +kernel
theorem dX10_longest_25 : decode cX10_longest 25 = .ok (.invokestatic 100, 3) := by decide +kernel
theorem dX10_longest_28 : decode cX10_longest 28 = .ok (.ifCond .ne 5, 3) := by decide +kernel
theorem dX10_longest_31 : decode cX10_longest 31 = .ok (.iconst (-1), 1) := by decide +kernel
theorem dX10_longest_32 : decode cX10_longest 32 = .ok (.ireturn, 1) := by decide +kernel
theorem dX10_longest_33 : decode cX10_longest 33 = .ok (.iload_n 3, 1) := by decide +kernel
theorem dX10_longest_34 : decode cX10_longest 34 = .ok (.iconst 1, 1) := by decide +kernel
theorem dX10_longest_35 : decode cX10_longest 35 = .ok (.isub, 1) := by decide +kernel
theorem dX10_longest_36 : decode cX10_longest 36 = .ok (.iload_n 1, 1) := by decide +kernel
theorem dX10_longest_37 : decode cX10_longest 37 = .ok (.if_icmp .le 6, 3) := by decide +kernel
theorem dX10_longest_40 : decode cX10_longest 40 = .ok (.bipush (-4), 2) := by decide +kernel
theorem dX10_longest_42 : decode cX10_longest 42 = .ok (.ireturn, 1) := by decide +kernel
theorem dX10_longest_43 : decode cX10_longest 43 = .ok (.aload_n 0, 1) := by decide +kernel
theorem dX10_longest_44 : decode cX10_longest 44 = .ok (.getfield 46, 3) := by decide +kernel
theorem dX10_longest_47 : decode cX10_longest 47 = .ok (.iload_n 1, 1) := by decide +kernel
theorem dX10_longest_48 : decode cX10_longest 48 = .ok (.iload_n 2, 1) := by decide +kernel
theorem dX10_longest_49 : decode cX10_longest 49 = .ok (.invokevirtual 155, 3) := by decide +kernel
theorem dX10_longest_52 : decode cX10_longest 52 = .ok (.iload_n 3, 1) := by decide +kernel
theorem dX10_longest_53 : decode cX10_longest 53 = .ok (.ifCond .ne 11, 3) := by decide +kernel
theorem dX10_longest_56 : decode cX10_longest 56 = .ok (.aload_n 0, 1) := by decide +kernel
theorem dX10_longest_57 : decode cX10_longest 57 = .ok (.getfield 46, 3) := by decide +kernel
theorem dX10_longest_60 : decode cX10_longest 60 = .ok (.getfield 159, 3) := by decide +kernel
theorem dX10_longest_63 : decode cX10_longest 63 = .ok (.ireturn, 1) := by decide +kernel
theorem dX10_longest_64 : decode cX10_longest 64 = .ok (.iload_n 3, 1) := by decide +kernel
theorem dX10_longest_65 : decode cX10_longest 65 = .ok (.iconst 1, 1) := by decide +kernel
theorem dX10_longest_66 : decode cX10_longest 66 = .ok (.if_icmp .ne 13, 3) := by decide +kernel
theorem dX10_longest_69 : decode cX10_longest 69 = .ok (.aload_n 0, 1) := by decide +kernel
theorem dX10_longest_70 : decode cX10_longest 70 = .ok (.getfield 46, 3) := by decide +kernel
theorem dX10_longest_73 : decode cX10_longest 73 = .ok (.getfield 162, 3) := by decide +kernel
theorem dX10_longest_76 : decode cX10_longest 76 = .ok (.goto 18, 3) := by decide +kernel
theorem dX10_longest_79 : decode cX10_longest 79 = .ok (.aload_n 0, 1) := by decide +kernel
theorem dX10_longest_80 : decode cX10_longest 80 = .ok (.getfield 46, 3) := by decide +kernel
theorem dX10_longest_83 : decode cX10_longest 83 = .ok (.getfield 163, 3) := by decide +kernel
theorem dX10_longest_86 : decode cX10_longest 86 = .ok (.getfield 104, 3) := by decide +kernel
theorem dX10_longest_89 : decode cX10_longest 89 = .ok (.iload_n 3, 1) := by decide +kernel
theorem dX10_longest_90 : decode cX10_longest 90 = .ok (.iconst 1, 1) := by decide +kernel
theorem dX10_longest_91 : decode cX10_longest 91 = .ok (.isub, 1) := by decide +kernel
theorem dX10_longest_92 : decode cX10_longest 92 = .ok (.laload, 1) := by decide +kernel
theorem dX10_longest_93 : decode cX10_longest 93 = .ok (.l2i, 1) := by decide +kernel
theorem dX10_longest_94 : decode cX10_longest 94 = .ok (.ireturn, 1) := by decide +kernel
theorem dX10_prime_0 : decode cX10_prime 0 = .ok (.iload_n 1, 1) := by decide +kernel
theorem dX10_prime_1 : decode cX10_prime 1 = .ok (.invokestatic 148, 3) := by decide +kernel
theorem dX10_prime_4 : decode cX10_prime 4 = .ok (.ifCond .ne 5, 3) := by decide +kernel
theorem dX10_prime_7 : decode cX10_prime 7 = .ok (.iconst (-1), 1) := by decide +kernel
theorem dX10_prime_8 : decode cX10_prime 8 = .ok (.ireturn, 1) := by decide +kernel
theorem dX10_prime_9 : decode cX10_prime 9 = .ok (.aload_n 0, 1) := by decide +kernel
theorem dX10_prime_10 : decode cX10_prime 10 = .ok (.getfield 25, 3) := by decide +kernel
theorem dX10_prime_13 : decode cX10_prime 13 = .ok (.getfield 166, 3) := by decide +kernel
theorem dX10_prime_16 : decode cX10_prime 16 = .ok (.istore_n 2, 1) := by decide +kernel
theorem dX10_prime_17 : decode cX10_prime 17 = .ok (.aload_n 0, 1) := by decide +kernel
theorem dX10_prime_18 : decode cX10_prime 18 = .ok (.getfield 25, 3) := by decide +kernel
theorem dX10_prime_21 : decode cX10_prime 21 = .ok (.iconst 0, 1) := by decide +kernel
theorem dX10_prime_22 : decode cX10_prime 22 = .ok (.putfield 166, 3) := by decide +kernel
theorem dX10_prime_25 : decode cX10_prime 25 = .ok (.aload_n 0, 1) := by decide +kernel
theorem dX10_prime_26 : decode cX10_prime 26 = .ok (.getfield 25, 3) := by decide +kernel
theorem dX10_prime_29 : decode cX10_prime 29 = .ok (.iload_n 1, 1) := by decide +kernel
theorem dX10_prime_30 : decode cX10_prime 30 = .ok (.putfield 169, 3) := by decide +kernel
theorem dX10_prime_33 : decode cX10_prime 33 = .ok (.iload_n 2, 1) := by decide +kernel
theorem dX10_prime_34 : decode cX10_prime 34 = .ok (.ireturn, 1) := by decide +kernel
theorem dX10_add_0 : decode cX10_add 0 = .ok (.iload_n 1, 1) := by decide +kernel
theorem dX10_add_1 : decode cX10_add 1 = .ok (.iconst 0, 1) := by decide +kernel
theorem dX10_add_2 : decode cX10_add 2 = .ok (.aload_n 0, 1) := by decide +kernel
theorem dX10_add_3 : decode cX10_add 3 = .ok (.getfield 25, 3) := by decide +kernel
theorem dX10_add_6 : decode cX10_add 6 = .ok (.getfield 169, 3) := by decide +kernel
theorem dX10_add_9 : decode cX10_add 9 = .ok (.iconst 1, 1) := by decide +kernel
theorem dX10_add_10 : decode cX10_add 10 = .ok (.isub, 1) := by decide +kernel
theorem dX10_add_11 : decode cX10_add 11 = .ok (.invokestatic 100, 3) := by decide +kernel
theorem dX10_add_14 : decode cX10_add 14 = .ok (.ifCond .ne 5, 3) := by decide +kernel
theorem dX10_add_17 : decode cX10_add 17 = .ok (.iconst (-1), 1) := by decide +kernel
theorem dX10_add_18 : decode cX10_add 18 = .ok (.ireturn, 1) := by decide +kernel
theorem dX10_add_19 : decode cX10_add 19 = .ok (.aload_n 0, 1) := by decide +kernel
theorem dX10_add_20 : decode cX10_add 20 = .ok (.getfield 25, 3) := by decide +kernel
theorem dX10_add_23 : decode cX10_add 23 = .ok (.iload_n 1, 1) := by decide +kernel
theorem dX10_add_24 : decode cX10_add 24 = .ok (.invokevirtual 172, 3) := by decide +kernel
theorem dX10_add_27 : decode cX10_add 27 = .ok (.ifCond .eq 13, 3) := by decide +kernel
theorem dX10_add_30 : decode cX10_add 30 = .ok (.aload_n 0, 1) := by decide +kernel
theorem dX10_add_31 : decode cX10_add 31 = .ok (.getfield 25, 3) := by decide +kernel
theorem dX10_add_34 : decode cX10_add 34 = .ok (.getfield 166, 3) := by decide +kernel
theorem dX10_add_37 : decode cX10_add 37 = .ok (.goto 5, 3) := by decide +kernel
theorem dX10_add_40 : decode cX10_add 40 = .ok (.bipush (-3), 2) := by decide +kernel
theorem dX10_add_42 : decode cX10_add 42 = .ok (.ireturn, 1) := by decide +kernel
theorem dX10_least_0 : decode cX10_least 0 = .ok (.iload_n 1, 1) := by decide +kernel
theorem dX10_least_1 : decode cX10_least 1 = .ok (.ifCond .ge 5, 3) := by decide +kernel
theorem dX10_least_4 : decode cX10_least 4 = .ok (.iconst (-1), 1) := by decide +kernel
theorem dX10_least_5 : decode cX10_least 5 = .ok (.ireturn, 1) := by decide +kernel
theorem dX10_least_6 : decode cX10_least 6 = .ok (.aload_n 0, 1) := by decide +kernel
theorem dX10_least_7 : decode cX10_least 7 = .ok (.getfield 25, 3) := by decide +kernel
theorem dX10_least_10 : decode cX10_least 10 = .ok (.invokevirtual 174, 3) := by decide +kernel
theorem dX10_least_13 : decode cX10_least 13 = .ok (.iload_n 1, 1) := by decide +kernel
theorem dX10_least_14 : decode cX10_least 14 = .ok (.aload_n 0, 1) := by decide +kernel
theorem dX10_least_15 : decode cX10_least 15 = .ok (.getfield 25, 3) := by decide +kernel
theorem dX10_least_18 : decode cX10_least 18 = .ok (.getfield 177, 3) := by decide +kernel
theorem dX10_least_21 : decode cX10_least 21 = .ok (.if_icmp .le 6, 3) := by decide +kernel
theorem dX10_least_24 : decode cX10_least 24 = .ok (.bipush (-4), 2) := by decide +kernel
theorem dX10_least_26 : decode cX10_least 26 = .ok (.ireturn, 1) := by decide +kernel
theorem dX10_least_27 : decode cX10_least 27 = .ok (.iload_n 1, 1) := by decide +kernel
theorem dX10_least_28 : decode cX10_least 28 = .ok (.ifCond .ne 13, 3) := by decide +kernel
theorem dX10_least_31 : decode cX10_least 31 = .ok (.aload_n 0, 1) := by decide +kernel
theorem dX10_least_32 : decode cX10_least 32 = .ok (.getfield 25, 3) := by decide +kernel
theorem dX10_least_35 : decode cX10_least 35 = .ok (.getfield 177, 3) := by decide +kernel
theorem dX10_least_38 : decode cX10_least 38 = .ok (.goto 12, 3) := by decide +kernel
theorem dX10_least_41 : decode cX10_least 41 = .ok (.aload_n 0, 1) := by decide +kernel
theorem dX10_least_42 : decode cX10_least 42 = .ok (.getfield 25, 3) := by decide +kernel
theorem dX10_least_45 : decode cX10_least 45 = .ok (.getfield 180, 3) := by decide +kernel
theorem dX10_least_48 : decode cX10_least 48 = .ok (.iload_n 1, 1) := by decide +kernel
theorem dX10_least_49 : decode cX10_least 49 = .ok (.iaload, 1) := by decide +kernel
theorem dX10_least_50 : decode cX10_least 50 = .ok (.ireturn, 1) := by decide +kernel
theorem dX10_breaks_0 : decode cX10_breaks 0 = .ok (.iload_n 1, 1) := by decide +kernel
theorem dX10_breaks_1 : decode cX10_breaks 1 = .ok (.invokestatic 84, 3) := by decide +kernel
theorem dX10_breaks_4 : decode cX10_breaks 4 = .ok (.ifCond .ne 5, 3) := by decide +kernel
theorem dX10_breaks_7 : decode cX10_breaks 7 = .ok (.iconst (-1), 1) := by decide +kernel
theorem dX10_breaks_8 : decode cX10_breaks 8 = .ok (.ireturn, 1) := by decide +kernel
theorem dX10_breaks_9 : decode cX10_breaks 9 = .ok (.aload_n 0, 1) := by decide +kernel
theorem dX10_breaks_10 : decode cX10_breaks 10 = .ok (.getfield 25, 3) := by decide +kernel
theorem dX10_breaks_13 : decode cX10_breaks 13 = .ok (.aload_n 0, 1) := by decide +kernel
theorem dX10_breaks_14 : decode cX10_breaks 14 = .ok (.getfield 18, 3) := by decide +kernel
theorem dX10_breaks_17 : decode cX10_breaks 17 = .ok (.iload_n 1, 1) := by decide +kernel
theorem dX10_breaks_18 : decode cX10_breaks 18 = .ok (.aaload, 1) := by decide +kernel
theorem dX10_breaks_19 : decode cX10_breaks 19 = .ok (.invokevirtual 183, 3) := by decide +kernel
theorem dX10_breaks_22 : decode cX10_breaks 22 = .ok (.ireturn, 1) := by decide +kernel
theorem dX10_next_0 : decode cX10_next 0 = .ok (.aload_n 0, 1) := by decide +kernel
theorem dX10_next_1 : decode cX10_next 1 = .ok (.getfield 25, 3) := by decide +kernel
theorem dX10_next_4 : decode cX10_next 4 = .ok (.getfield 166, 3) := by decide +kernel
theorem dX10_next_7 : decode cX10_next 7 = .ok (.ifCond .ne 6, 3) := by decide +kernel
theorem dX10_next_10 : decode cX10_next 10 = .ok (.bipush (-4), 2) := by decide +kernel
theorem dX10_next_12 : decode cX10_next 12 = .ok (.ireturn, 1) := by decide +kernel
theorem dX10_next_13 : decode cX10_next 13 = .ok (.aload_n 0, 1) := by decide +kernel
theorem dX10_next_14 : decode cX10_next 14 = .ok (.getfield 25, 3) := by decide +kernel
theorem dX10_next_17 : decode cX10_next 17 = .ok (.invokevirtual 174, 3) := by decide +kernel
theorem dX10_next_20 : decode cX10_next 20 = .ok (.aload_n 0, 1) := by decide +kernel
theorem dX10_next_21 : decode cX10_next 21 = .ok (.getfield 25, 3) := by decide +kernel
theorem dX10_next_24 : decode cX10_next 24 = .ok (.invokevirtual 187, 3) := by decide +kernel
theorem dX10_next_27 : decode cX10_next 27 = .ok (.ireturn, 1) := by decide +kernel
theorem dX10_make_0 : decode cX10_make 0 = .ok (.iload_n 1, 1) := by decide +kernel
theorem dX10_make_1 : decode cX10_make 1 = .ok (.invokestatic 84, 3) := by decide +kernel
theorem dX10_make_4 : decode cX10_make 4 = .ok (.ifCond .eq 20, 3) := by decide +kernel
theorem dX10_make_7 : decode cX10_make 7 = .ok (.iload_n 2, 1) := by decide +kernel
theorem dX10_make_8 : decode cX10_make 8 = .ok (.iconst 0, 1) := by decide +kernel
theorem dX10_make_9 : decode cX10_make 9 = .ok (.bipush 7, 2) := by decide +kernel
theorem dX10_make_11 : decode cX10_make 11 = .ok (.invokestatic 100, 3) := by decide +kernel
theorem dX10_make_14 : decode cX10_make 14 = .ok (.ifCond .eq 10, 3) := by decide +kernel
theorem dX10_make_17 : decode cX10_make 17 = .ok (.iload_n 3, 1) := by decide +kernel
theorem dX10_make_18 : decode cX10_make 18 = .ok (.invokestatic 84, 3) := by decide +kernel
theorem dX10_make_21 : decode cX10_make 21 = .ok (.ifCond .ne 5, 3) := by decide +kernel
theorem dX10_make_24 : decode cX10_make 24 = .ok (.iconst (-1), 1) := by decide +kernel
theorem dX10_make_25 : decode cX10_make 25 = .ok (.ireturn, 1) := by decide +kernel
theorem dX10_make_26 : decode cX10_make 26 = .ok (.iload_n 2, 1) := by decide +kernel
theorem dX10_make_27 : decode cX10_make 27 = .ok (.iconst 3, 1) := by decide +kernel
theorem dX10_make_28 : decode cX10_make 28 = .ok (.if_icmp .gt 7, 3) := by decide +kernel
theorem dX10_make_31 : decode cX10_make 31 = .ok (.iconst 1, 1) := by decide +kernel
theorem dX10_make_32 : decode cX10_make 32 = .ok (.goto 4, 3) := by decide +kernel
theorem dX10_make_35 : decode cX10_make 35 = .ok (.iconst 0, 1) := by decide +kernel
theorem dX10_make_36 : decode cX10_make 36 = .ok (.istore 6, 2) := by decide +kernel
theorem dX10_make_38 : decode cX10_make 38 = .ok (.iload 6, 2) := by decide +kernel
theorem dX10_make_40 : decode cX10_make 40 = .ok (.ifCond .eq 14, 3) := by decide +kernel
theorem dX10_make_43 : decode cX10_make 43 = .ok (.iload 4, 2) := by decide +kernel
theorem dX10_make_45 : decode cX10_make 45 = .ok (.invokestatic 84, 3) := by decide +kernel
theorem dX10_make_48 : decode cX10_make 48 = .ok (.ifCond .ne 17, 3) := by decide +kernel
theorem dX10_make_51 : decode cX10_make 51 = .ok (.goto 12, 3) := by decide +kernel
theorem dX10_make_54 : decode cX10_make 54 = .ok (.iload_n 2, 1) := by decide +kernel
theorem dX10_make_55 : decode cX10_make 55 = .ok (.iload 5, 2) := by decide +kernel
theorem dX10_make_57 : decode cX10_make 57 = .ok (.invokestatic 190, 3) := by decide +kernel
theorem dX10_make_60 : decode cX10_make 60 = .ok (.ifCond .ne 5, 3) := by decide +kernel
theorem dX10_make_63 : decode cX10_make 63 = .ok (.iconst (-1), 1) := by decide +kernel
theorem dX10_make_64 : decode cX10_make 64 = .ok (.ireturn, 1) := by decide +kernel
theorem dX10_make_65 : decode cX10_make 65 = .ok (.aload_n 0, 1) := by decide +kernel
theorem dX10_make_66 : decode cX10_make 66 = .ok (.getfield 53, 3) := by decide +kernel
theorem dX10_make_69 : decode cX10_make 69 = .ok (.iload_n 2, 1) := by decide +kernel
theorem dX10_make_70 : decode cX10_make 70 = .ok (.aload_n 0, 1) := by decide +kernel
theorem dX10_make_71 : decode cX10_make 71 = .ok (.getfield 18, 3) := by decide +kernel
theorem dX10_make_74 : decode cX10_make 74 = .ok (.iload_n 3, 1) := by decide +kernel
theorem dX10_make_75 : decode cX10_make 75 = .ok (.aaload, 1) := by decide +kernel
theorem dX10_make_76 : decode cX10_make 76 = .ok (.aload_n 0, 1) := by decide +kernel
theorem dX10_make_77 : decode cX10_make 77 = .ok (.getfield 18, 3) := by decide +kernel
theorem dX10_make_80 : decode cX10_make 80 = .ok (.iload 6, 2) := by decide +kernel
theorem dX10_make_82 : decode cX10_make 82 = .ok (.ifCond .eq 8, 3) := by decide +kernel
theorem dX10_make_85 : decode cX10_make 85 = .ok (.iload 4, 2) := by decide +kernel
theorem dX10_make_87 : decode cX10_make 87 = .ok (.goto 4, 3) := by decide +kernel
theorem dX10_make_90 : decode cX10_make 90 = .ok (.iload_n 3, 1) := by decide +kernel
theorem dX10_make_91 : decode cX10_make 91 = .ok (.aaload, 1) := by decide +kernel
theorem dX10_make_92 : decode cX10_make 92 = .ok (.iload 5, 2) := by decide +kernel
theorem dX10_make_94 : decode cX10_make 94 = .ok (.invokevirtual 193, 3) := by decide +kernel
theorem dX10_make_97 : decode cX10_make 97 = .ok (.ifCond .ne 6, 3) := by decide +kernel
theorem dX10_make_100 : decode cX10_make 100 = .ok (.bipush (-3), 2) := by decide +kernel
theorem dX10_make_102 : decode cX10_make 102 = .ok (.ireturn, 1) := by decide +kernel
theorem dX10_make_103 : decode cX10_make 103 = .ok (.aload_n 0, 1) := by decide +kernel
theorem dX10_make_104 : decode cX10_make 104 = .ok (.getfield 18, 3) := by decide +kernel
theorem dX10_make_107 : decode cX10_make 107 = .ok (.iload_n 1, 1) := by decide +kernel
theorem dX10_make_108 : decode cX10_make 108 = .ok (.aaload, 1) := by decide +kernel
theorem dX10_make_109 : decode cX10_make 109 = .ok (.aload_n 0, 1) := by decide +kernel
theorem dX10_make_110 : decode cX10_make 110 = .ok (.getfield 53, 3) := by decide +kernel
theorem dX10_make_113 : decode cX10_make 113 = .ok (.getfield 197, 3) := by decide +kernel
theorem dX10_make_116 : decode cX10_make 116 = .ok (.invokevirtual 92, 3) := by decide +kernel
theorem dX10_make_119 : decode cX10_make 119 = .ok (.aload_n 0, 1) := by decide +kernel
theorem dX10_make_120 : decode cX10_make 120 = .ok (.getfield 18, 3) := by decide +kernel
theorem dX10_make_123 : decode cX10_make 123 = .ok (.iload_n 1, 1) := by decide +kernel
theorem dX10_make_124 : decode cX10_make 124 = .ok (.aaload, 1) := by decide +kernel
theorem dX10_make_125 : decode cX10_make 125 = .ok (.getfield 96, 3) := by decide +kernel
theorem dX10_make_128 : decode cX10_make 128 = .ok (.ireturn, 1) := by decide +kernel
theorem dX10_same_0 : decode cX10_same 0 = .ok (.iload_n 1, 1) := by decide +kernel
theorem dX10_same_1 : decode cX10_same 1 = .ok (.invokestatic 84, 3) := by decide +kernel
theorem dX10_same_4 : decode cX10_same 4 = .ok (.ifCond .eq 10, 3) := by decide +kernel
theorem dX10_same_7 : decode cX10_same 7 = .ok (.iload_n 2, 1) := by decide +kernel
theorem dX10_same_8 : decode cX10_same 8 = .ok (.invokestatic 84, 3) := by decide +kernel
theorem dX10_same_11 : decode cX10_same 11 = .ok (.ifCond .ne 5, 3) := by decide +kernel
theorem dX10_same_14 : decode cX10_same 14 = .ok (.iconst (-1), 1) := by decide +kernel
theorem dX10_same_15 : decode cX10_same 15 = .ok (.ireturn, 1) := by decide +kernel
theorem dX10_same_16 : decode cX10_same 16 = .ok (.aload_n 0, 1) := by decide +kernel
theorem dX10_same_17 : decode cX10_same 17 = .ok (.getfield 18, 3) := by decide +kernel
theorem dX10_same_20 : decode cX10_same 20 = .ok (.iload_n 1, 1) := by decide +kernel
theorem dX10_same_21 : decode cX10_same 21 = .ok (.aaload, 1) := by decide +kernel
theorem dX10_same_22 : decode cX10_same 22 = .ok (.getfield 96, 3) := by decide +kernel
theorem dX10_same_25 : decode cX10_same 25 = .ok (.aload_n 0, 1) := by decide +kernel
theorem dX10_same_26 : decode cX10_same 26 = .ok (.getfield 18, 3) := by decide +kernel
theorem dX10_same_29 : decode cX10_same 29 = .ok (.iload_n 2, 1) := by decide +kernel
theorem dX10_same_30 : decode cX10_same 30 = .ok (.aaload, 1) := by decide +kernel
theorem dX10_same_31 : decode cX10_same 31 = .ok (.getfield 96, 3) := by decide +kernel
theorem dX10_same_34 : decode cX10_same 34 = .ok (.iadd, 1) := by decide +kernel
theorem dX10_same_35 : decode cX10_same 35 = .ok (.istore_n 3, 1) := by decide +kernel
theorem dX10_same_36 : decode cX10_same 36 = .ok (.aload_n 0, 1) := by decide +kernel
theorem dX10_same_37 : decode cX10_same 37 = .ok (.getfield 18, 3) := by decide +kernel
theorem dX10_same_40 : decode cX10_same 40 = .ok (.iload_n 1, 1) := by decide +kernel
theorem dX10_same_41 : decode cX10_same 41 = .ok (.aaload, 1) := by decide +kernel
theorem dX10_same_42 : decode cX10_same 42 = .ok (.aload_n 0, 1) := by decide +kernel
theorem dX10_same_43 : decode cX10_same 43 = .ok (.getfield 64, 3) := by decide +kernel
theorem dX10_same_46 : decode cX10_same 46 = .ok (.iload_n 3, 1) := by decide +kernel
theorem dX10_same_47 : decode cX10_same 47 = .ok (.iconst 1, 1) := by decide +kernel
theorem dX10_same_48 : decode cX10_same 48 = .ok (.isub, 1) := by decide +kernel
theorem dX10_same_49 : decode cX10_same 49 = .ok (.invokevirtual 112, 3) := by decide +kernel
theorem dX10_same_52 : decode cX10_same 52 = .ok (.istore 4, 2) := by decide +kernel
theorem dX10_same_54 : decode cX10_same 54 = .ok (.aload_n 0, 1) := by decide +kernel
theorem dX10_same_55 : decode cX10_same 55 = .ok (.getfield 18, 3) := by decide +kernel
theorem dX10_same_58 : decode cX10_same 58 = .ok (.iload_n 2, 1) := by decide +kernel
theorem dX10_same_59 : decode cX10_same 59 = .ok (.aaload, 1) := by decide +kernel
theorem dX10_same_60 : decode cX10_same 60 = .ok (.aload_n 0, 1) := by decide +kernel
theorem dX10_same_61 : decode cX10_same 61 = .ok (.getfield 68, 3) := by decide +kernel
theorem dX10_same_64 : decode cX10_same 64 = .ok (.iload_n 3, 1) := by decide +kernel
theorem dX10_same_65 : decode cX10_same 65 = .ok (.iconst 1, 1) := by decide +kernel
theorem dX10_same_66 : decode cX10_same 66 = .ok (.isub, 1) := by decide +kernel
theorem dX10_same_67 : decode cX10_same 67 = .ok (.invokevirtual 112, 3) := by decide +kernel
theorem dX10_same_70 : decode cX10_same 70 = .ok (.istore 5, 2) := by decide +kernel
theorem dX10_same_72 : decode cX10_same 72 = .ok (.iload 4, 2) := by decide +kernel
theorem dX10_same_74 : decode cX10_same 74 = .ok (.iload 5, 2) := by decide +kernel
theorem dX10_same_76 : decode cX10_same 76 = .ok (.invokestatic 200, 3) := by decide +kernel
theorem dX10_same_79 : decode cX10_same 79 = .ok (.istore 6, 2) := by decide +kernel
theorem dX10_same_81 : decode cX10_same 81 = .ok (.iconst 0, 1) := by decide +kernel
theorem dX10_same_82 : decode cX10_same 82 = .ok (.istore 7, 2) := by decide +kernel
theorem dX10_same_84 : decode cX10_same 84 = .ok (.iload 7, 2) := by decide +kernel
theorem dX10_same_86 : decode cX10_same 86 = .ok (.iload 6, 2) := by decide +kernel
theorem dX10_same_88 : decode cX10_same 88 = .ok (.if_icmp .ge 29, 3) := by decide +kernel
theorem dX10_same_91 : decode cX10_same 91 = .ok (.aload_n 0, 1) := by decide +kernel
theorem dX10_same_92 : decode cX10_same 92 = .ok (.getfield 64, 3) := by decide +kernel
theorem dX10_same_95 : decode cX10_same 95 = .ok (.iload 7, 2) := by decide +kernel
theorem dX10_same_97 : decode cX10_same 97 = .ok (.laload, 1) := by decide +kernel
theorem dX10_same_98 : decode cX10_same 98 = .ok (.aload_n 0, 1) := by decide +kernel
theorem dX10_same_99 : decode cX10_same 99 = .ok (.getfield 68, 3) := by decide +kernel
theorem dX10_same_102 : decode cX10_same 102 = .ok (.iload 7, 2) := by decide +kernel
theorem dX10_same_104 : decode cX10_same 104 = .ok (.laload, 1) := by decide +kernel
theorem dX10_same_105 : decode cX10_same 105 = .ok (.lcmp, 1) := by decide +kernel
theorem dX10_same_106 : decode cX10_same 106 = .ok (.ifCond .eq 5, 3) := by decide +kernel
theorem dX10_same_109 : decode cX10_same 109 = .ok (.iconst 0, 1) := by decide +kernel
theorem dX10_same_110 : decode cX10_same 110 = .ok (.ireturn, 1) := by decide +kernel
theorem dX10_same_111 : decode cX10_same 111 = .ok (.iinc 7 1, 3) := by decide +kernel
theorem dX10_same_114 : decode cX10_same 114 = .ok (.goto (-30), 3) := by decide +kernel
theorem dX10_same_117 : decode cX10_same 117 = .ok (.iload 6, 2) := by decide +kernel
theorem dX10_same_119 : decode cX10_same 119 = .ok (.iload_n 3, 1) := by decide +kernel
theorem dX10_same_120 : decode cX10_same 120 = .ok (.if_icmp .ge 8, 3) := by decide +kernel
theorem dX10_same_123 : decode cX10_same 123 = .ok (.bipush (-5), 2) := by decide +kernel
theorem dX10_same_125 : decode cX10_same 125 = .ok (.goto 4, 3) := by decide +kernel
theorem dX10_same_128 : decode cX10_same 128 = .ok (.iconst 1, 1) := by decide +kernel
theorem dX10_same_129 : decode cX10_same 129 = .ok (.ireturn, 1) := by decide +kernel
theorem dX10_dividing_0 : decode cX10_dividing 0 = .ok (.iload_n 1, 1) := by decide +kernel
theorem dX10_dividing_1 : decode cX10_dividing 1 = .ok (.invokestatic 84, 3) := by decide +kernel
theorem dX10_dividing_4 : decode cX10_dividing 4 = .ok (.ifCond .eq 13, 3) := by decide +kernel
theorem dX10_dividing_7 : decode cX10_dividing 7 = .ok (.iload_n 3, 1) := by decide +kernel
theorem dX10_dividing_8 : decode cX10_dividing 8 = .ok (.iconst 2, 1) := by decide +kernel
theorem dX10_dividing_9 : decode cX10_dividing 9 = .ok (.bipush 40, 2) := by decide +kernel
theorem dX10_dividing_11 : decode cX10_dividing 11 = .ok (.invokestatic 100, 3) := by decide +kernel
theorem dX10_dividing_14 : decode cX10_dividing 14 = .ok (.ifCond .ne 5, 3) := by decide +kernel
theorem dX10_dividing_17 : decode cX10_dividing 17 = .ok (.iconst (-1), 1) := by decide +kernel
theorem dX10_dividing_18 : decode cX10_dividing 18 = .ok (.ireturn, 1) := by decide +kernel
theorem dX10_dividing_19 : decode cX10_dividing 19 = .ok (.aload_n 0, 1) := by decide +kernel
theorem dX10_dividing_20 : decode cX10_dividing 20 = .ok (.getfield 18, 3) := by decide +kernel
theorem dX10_dividing_23 : decode cX10_dividing 23 = .ok (.iload_n 1, 1) := by decide +kernel
theorem dX10_dividing_24 : decode cX10_dividing 24 = .ok (.aaload, 1) := by decide +kernel
theorem dX10_dividing_25 : decode cX10_dividing 25 = .ok (.aload_n 0, 1) := by decide +kernel
theorem dX10_dividing_26 : decode cX10_dividing 26 = .ok (.getfield 64, 3) := by decide +kernel
theorem dX10_dividing_29 : decode cX10_dividing 29 = .ok (.iload_n 3, 1) := by decide +kernel
theorem dX10_dividing_30 : decode cX10_dividing 30 = .ok (.invokevirtual 112, 3) := by decide +kernel
theorem dX10_dividing_33 : decode cX10_dividing 33 = .ok (.iload_n 3, 1) := by decide +kernel
theorem dX10_dividing_34 : decode cX10_dividing 34 = .ok (.if_icmp .gt 6, 3) := by decide +kernel
theorem dX10_dividing_37 : decode cX10_dividing 37 = .ok (.bipush (-5), 2) := by decide +kernel
theorem dX10_dividing_39 : decode cX10_dividing 39 = .ok (.ireturn, 1) := by decide +kernel
theorem dX10_dividing_40 : decode cX10_dividing 40 = .ok (.iconst 2, 1) := by decide +kernel
theorem dX10_dividing_41 : decode cX10_dividing 41 = .ok (.istore 4, 2) := by decide +kernel
theorem dX10_dividing_43 : decode cX10_dividing 43 = .ok (.iload 4, 2) := by decide +kernel
theorem dX10_dividing_45 : decode cX10_dividing 45 = .ok (.iload_n 3, 1) := by decide +kernel
theorem dX10_dividing_46 : decode cX10_dividing 46 = .ok (.if_icmp .gt 63, 3) := by decide +kernel
theorem dX10_dividing_49 : decode cX10_dividing 49 = .ok (.iconst 1, 1) := by decide +kernel
theorem dX10_dividing_50 : decode cX10_dividing 50 = .ok (.istore 5, 2) := by decide +kernel
theorem dX10_dividing_52 : decode cX10_dividing 52 = .ok (.iload 5, 2) := by decide +kernel
theorem dX10_dividing_54 : decode cX10_dividing 54 = .ok (.iload 4, 2) := by decide +kernel
theorem dX10_dividing_56 : decode cX10_dividing 56 = .ok (.if_icmp .ge 47, 3) := by decide +kernel
theorem dX10_dividing_59 : decode cX10_dividing 59 = .ok (.iload_n 2, 1) := by decide +kernel
theorem dX10_dividing_60 : decode cX10_dividing 60 = .ok (.ifCond .eq 17, 3) := by decide +kernel
theorem dX10_dividing_63 : decode cX10_dividing 63 = .ok (.aload_n 0, 1) := by decide +kernel
theorem dX10_dividing_64 : decode cX10_dividing 64 = .ok (.iload 5, 2) := by decide +kernel
theorem dX10_dividing_66 : decode cX10_dividing 66 = .ok (.iload 4, 2) := by decide +kernel
theorem dX10_dividing_68 : decode cX10_dividing 68 = .ok (.invokevirtual 206, 3) := by decide +kernel
theorem dX10_dividing_71 : decode cX10_dividing 71 = .ok (.ifCond .ne 26, 3) := by decide +kernel
theorem dX10_dividing_74 : decode cX10_dividing 74 = .ok (.goto 14, 3) := by decide +kernel
theorem dX10_dividing_77 : decode cX10_dividing 77 = .ok (.aload_n 0, 1) := by decide +kernel
theorem dX10_dividing_78 : decode cX10_dividing 78 = .ok (.iload 5, 2) := by decide +kernel
theorem dX10_dividing_80 : decode cX10_dividing 80 = .ok (.iload 4, 2) := by decide +kernel
theorem dX10_dividing_82 : decode cX10_dividing 82 = .ok (.invokevirtual 209, 3) := by decide +kernel
theorem dX10_dividing_85 : decode cX10_dividing 85 = .ok (.ifCond .ne 12, 3) := by decide +kernel
theorem dX10_dividing_88 : decode cX10_dividing 88 = .ok (.bipush 100, 2) := by decide +kernel
theorem dX10_dividing_90 : decode cX10_dividing 90 = .ok (.iload 5, 2) := by decide +kernel
theorem dX10_dividing_92 : decode cX10_dividing 92 = .ok (.imul, 1) := by decide +kernel
theorem dX10_dividing_93 : decode cX10_dividing 93 = .ok (.iload 4, 2) := by decide +kernel
theorem dX10_dividing_95 : decode cX10_dividing 95 = .ok (.iadd, 1) := by decide +kernel
theorem dX10_dividing_96 : decode cX10_dividing 96 = .ok (.ireturn, 1) := by decide +kernel
theorem dX10_dividing_97 : decode cX10_dividing 97 = .ok (.iinc 5 1, 3) := by decide +kernel
theorem dX10_dividing_100 : decode cX10_dividing 100 = .ok (.goto (-48), 3) := by decide +kernel
theorem dX10_dividing_103 : decode cX10_dividing 103 = .ok (.iinc 4 1, 3) := by decide +kernel
theorem dX10_dividing_106 : decode cX10_dividing 106 = .ok (.goto (-63), 3) := by decide +kernel
theorem dX10_dividing_109 : decode cX10_dividing 109 = .ok (.bipush (-4), 2) := by decide +kernel
theorem dX10_dividing_111 : decode cX10_dividing 111 = .ok (.ireturn, 1) := by decide +kernel
theorem dX10_parted_0 : decode cX10_parted 0 = .ok (.iload_n 1, 1) := by decide +kernel
theorem dX10_parted_1 : decode cX10_parted 1 = .ok (.invokestatic 84, 3) := by decide +kernel
theorem dX10_parted_4 : decode cX10_parted 4 = .ok (.ifCond .eq 19, 3) := by decide +kernel
theorem dX10_parted_7 : decode cX10_parted 7 = .ok (.iload_n 2, 1) := by decide +kernel
theorem dX10_parted_8 : decode cX10_parted 8 = .ok (.invokestatic 148, 3) := by decide +kernel
theorem dX10_parted_11 : decode cX10_parted 11 = .ok (.ifCond .eq 12, 3) := by decide +kernel
theorem dX10_parted_14 : decode cX10_parted 14 = .ok (.iload_n 3, 1) := by decide +kernel
theorem dX10_parted_15 : decode cX10_parted 15 = .ok (.iconst 0, 1) := by decide +kernel
theorem dX10_parted_16 : decode cX10_parted 16 = .ok (.iconst 2, 1) := by decide +kernel
theorem dX10_parted_17 : decode cX10_parted 17 = .ok (.invokestatic 100, 3) := by decide +kernel
theorem dX10_parted_20 : decode cX10_parted 20 = .ok (.ifCond .ne 5, 3) := by decide +kernel
theorem dX10_parted_23 : decode cX10_parted 23 = .ok (.iconst (-1), 1) := by decide +kernel
theorem dX10_parted_24 : decode cX10_parted 24 = .ok (.ireturn, 1) := by decide +kernel
theorem dX10_parted_25 : decode cX10_parted 25 = .ok (.aload_n 0, 1) := by decide +kernel
theorem dX10_parted_26 : decode cX10_parted 26 = .ok (.getfield 18, 3) := by decide +kernel
theorem dX10_parted_29 : decode cX10_parted 29 = .ok (.iload_n 1, 1) := by decide +kernel
theorem dX10_parted_30 : decode cX10_parted 30 = .ok (.aaload, 1) := by decide +kernel
theorem dX10_parted_31 : decode cX10_parted 31 = .ok (.astore 4, 2) := by decide +kernel
theorem dX10_parted_33 : decode cX10_parted 33 = .ok (.aload 4, 2) := by decide +kernel
theorem dX10_parted_35 : decode cX10_parted 35 = .ok (.getfield 104, 3) := by decide +kernel
theorem dX10_parted_38 : decode cX10_parted 38 = .ok (.aload 4, 2) := by decide +kernel
theorem dX10_parted_40 : decode cX10_parted 40 = .ok (.getfield 96, 3) := by decide +kernel
theorem dX10_parted_43 : decode cX10_parted 43 = .ok (.laload, 1) := by decide +kernel
theorem dX10_parted_44 : decode cX10_parted 44 = .ok (.iload_n 2, 1) := by decide +kernel
theorem dX10_parted_45 : decode cX10_parted 45 = .ok (.i2l, 1) := by decide +kernel
theorem dX10_parted_46 : decode cX10_parted 46 = .ok (.lrem, 1) := by decide +kernel
theorem dX10_parted_47 : decode cX10_parted 47 = .ok (.lconst 0, 1) := by decide +kernel
theorem dX10_parted_48 : decode cX10_parted 48 = .ok (.lcmp, 1) := by decide +kernel
theorem dX10_parted_49 : decode cX10_parted 49 = .ok (.ifCond .ne 6, 3) := by decide +kernel
theorem dX10_parted_52 : decode cX10_parted 52 = .ok (.bipush (-2), 2) := by decide +kernel
theorem dX10_parted_54 : decode cX10_parted 54 = .ok (.ireturn, 1) := by decide +kernel
theorem dX10_parted_55 : decode cX10_parted 55 = .ok (.aload_n 0, 1) := by decide +kernel
theorem dX10_parted_56 : decode cX10_parted 56 = .ok (.getfield 60, 3) := by decide +kernel
theorem dX10_parted_59 : decode cX10_parted 59 = .ok (.aload 4, 2) := by decide +kernel
theorem dX10_parted_61 : decode cX10_parted 61 = .ok (.iload_n 2, 1) := by decide +kernel
theorem dX10_parted_62 : decode cX10_parted 62 = .ok (.invokevirtual 212, 3) := by decide +kernel
theorem dX10_parted_65 : decode cX10_parted 65 = .ok (.iload_n 3, 1) := by decide +kernel
theorem dX10_parted_66 : decode cX10_parted 66 = .ok (.ifCond .ne 11, 3) := by decide +kernel
theorem dX10_parted_69 : decode cX10_parted 69 = .ok (.aload_n 0, 1) := by decide +kernel
theorem dX10_parted_70 : decode cX10_parted 70 = .ok (.getfield 60, 3) := by decide +kernel
theorem dX10_parted_73 : decode cX10_parted 73 = .ok (.getfield 216, 3) := by decide +kernel
theorem dX10_parted_76 : decode cX10_parted 76 = .ok (.ireturn, 1) := by decide +kernel
theorem dX10_parted_77 : decode cX10_parted 77 = .ok (.iload_n 3, 1) := by decide +kernel
theorem dX10_parted_78 : decode cX10_parted 78 = .ok (.iconst 1, 1) := by decide +kernel
theorem dX10_parted_79 : decode cX10_parted 79 = .ok (.if_icmp .ne 13, 3) := by decide +kernel
theorem dX10_parted_82 : decode cX10_parted 82 = .ok (.aload_n 0, 1) := by decide +kernel
theorem dX10_parted_83 : decode cX10_parted 83 = .ok (.getfield 60, 3) := by decide +kernel
theorem dX10_parted_86 : decode cX10_parted 86 = .ok (.getfield 219, 3) := by decide +kernel
theorem dX10_parted_89 : decode cX10_parted 89 = .ok (.goto 10, 3) := by decide +kernel
theorem dX10_parted_92 : decode cX10_parted 92 = .ok (.aload_n 0, 1) := by decide +kernel
theorem dX10_parted_93 : decode cX10_parted 93 = .ok (.getfield 60, 3) := by decide +kernel
theorem dX10_parted_96 : decode cX10_parted 96 = .ok (.getfield 222, 3) := by decide +kernel
theorem dX10_parted_99 : decode cX10_parted 99 = .ok (.ireturn, 1) := by decide +kernel
theorem dX10_count_0 : decode cX10_count 0 = .ok (.iload_n 1, 1) := by decide +kernel
theorem dX10_count_1 : decode cX10_count 1 = .ok (.ifCond .ne 11, 3) := by decide +kernel
theorem dX10_count_4 : decode cX10_count 4 = .ok (.aload_n 0, 1) := by decide +kernel
theorem dX10_count_5 : decode cX10_count 5 = .ok (.getfield 10, 3) := by decide +kernel
theorem dX10_count_8 : decode cX10_count 8 = .ok (.getfield 76, 3) := by decide +kernel
theorem dX10_count_11 : decode cX10_count 11 = .ok (.ireturn, 1) := by decide +kernel
theorem dX10_count_12 : decode cX10_count 12 = .ok (.iload_n 1, 1) := by decide +kernel
theorem dX10_count_13 : decode cX10_count 13 = .ok (.iconst 1, 1) := by decide +kernel
theorem dX10_count_14 : decode cX10_count 14 = .ok (.if_icmp .ne 11, 3) := by decide +kernel
theorem dX10_count_17 : decode cX10_count 17 = .ok (.aload_n 0, 1) := by decide +kernel
theorem dX10_count_18 : decode cX10_count 18 = .ok (.getfield 25, 3) := by decide +kernel
theorem dX10_count_21 : decode cX10_count 21 = .ok (.getfield 166, 3) := by decide +kernel
theorem dX10_count_24 : decode cX10_count 24 = .ok (.ireturn, 1) := by decide +kernel
theorem dX10_count_25 : decode cX10_count 25 = .ok (.iload_n 1, 1) := by decide +kernel
theorem dX10_count_26 : decode cX10_count 26 = .ok (.iconst 2, 1) := by decide +kernel
theorem dX10_count_27 : decode cX10_count 27 = .ok (.if_icmp .ne 10, 3) := by decide +kernel
theorem dX10_count_30 : decode cX10_count 30 = .ok (.aload_n 0, 1) := by decide +kernel
theorem dX10_count_31 : decode cX10_count 31 = .ok (.invokevirtual 225, 3) := by decide +kernel
theorem dX10_count_34 : decode cX10_count 34 = .ok (.goto 4, 3) := by decide +kernel
theorem dX10_count_37 : decode cX10_count 37 = .ok (.iconst (-1), 1) := by decide +kernel
theorem dX10_count_38 : decode cX10_count 38 = .ok (.ireturn, 1) := by decide +kernel
theorem dX10_ordersTogether_0 : decode cX10_ordersTogether 0 = .ok (.iconst 0, 1) := by decide +kernel
theorem dX10_ordersTogether_1 : decode cX10_ordersTogether 1 = .ok (.istore_n 1, 1) := by decide +kernel
theorem dX10_ordersTogether_2 : decode cX10_ordersTogether 2 = .ok (.iconst 0, 1) := by decide +kernel
theorem dX10_ordersTogether_3 : decode cX10_ordersTogether 3 = .ok (.istore_n 2, 1) := by decide +kernel
theorem dX10_ordersTogether_4 : decode cX10_ordersTogether 4 = .ok (.iload_n 2, 1) := by decide +kernel
theorem dX10_ordersTogether_5 : decode cX10_ordersTogether 5 = .ok (.bipush 6, 2) := by decide +kernel
theorem dX10_ordersTogether_7 : decode cX10_ordersTogether 7 = .ok (.if_icmp .ge 21, 3) := by decide +kernel
theorem dX10_ordersTogether_10 : decode cX10_ordersTogether 10 = .ok (.iload_n 1, 1) := by decide +kernel
theorem dX10_ordersTogether_11 : decode cX10_ordersTogether 11 = .ok (.aload_n 0, 1) := by decide +kernel
theorem dX10_ordersTogether_12 : decode cX10_ordersTogether 12 = .ok (.getfield 18, 3) := by decide +kernel
theorem dX10_ordersTogether_15 : decode cX10_ordersTogether 15 = .ok (.iload_n 2, 1) := by decide +kernel
theorem dX10_ordersTogether_16 : decode cX10_ordersTogether 16 = .ok (.aaload, 1) := by decide +kernel
theorem dX10_ordersTogether_17 : decode cX10_ordersTogether 17 = .ok (.getfield 96, 3) := by decide +kernel
theorem dX10_ordersTogether_20 : decode cX10_ordersTogether 20 = .ok (.iadd, 1) := by decide +kernel
theorem dX10_ordersTogether_21 : decode cX10_ordersTogether 21 = .ok (.istore_n 1, 1) := by decide +kernel
theorem dX10_ordersTogether_22 : decode cX10_ordersTogether 22 = .ok (.iinc 2 1, 3) := by decide +kernel
theorem dX10_ordersTogether_25 : decode cX10_ordersTogether 25 = .ok (.goto (-21), 3) := by decide +kernel
theorem dX10_ordersTogether_28 : decode cX10_ordersTogether 28 = .ok (.iload_n 1, 1) := by decide +kernel
theorem dX10_ordersTogether_29 : decode cX10_ordersTogether 29 = .ok (.ireturn, 1) := by decide +kernel
theorem dX10_divides_0 : decode cX10_divides 0 = .ok (.iload_n 2, 1) := by decide +kernel
theorem dX10_divides_1 : decode cX10_divides 1 = .ok (.iload_n 1, 1) := by decide +kernel
theorem dX10_divides_2 : decode cX10_divides 2 = .ok (.irem, 1) := by decide +kernel
theorem dX10_divides_3 : decode cX10_divides 3 = .ok (.ifCond .ne 21, 3) := by decide +kernel
theorem dX10_divides_6 : decode cX10_divides 6 = .ok (.aload_n 0, 1) := by decide +kernel
theorem dX10_divides_7 : decode cX10_divides 7 = .ok (.getfield 64, 3) := by decide +kernel
theorem dX10_divides_10 : decode cX10_divides 10 = .ok (.iload_n 1, 1) := by decide +kernel
theorem dX10_divides_11 : decode cX10_divides 11 = .ok (.laload, 1) := by decide +kernel
theorem dX10_divides_12 : decode cX10_divides 12 = .ok (.aload_n 0, 1) := by decide +kernel
theorem dX10_divides_13 : decode cX10_divides 13 = .ok (.getfield 64, 3) := by decide +kernel
theorem dX10_divides_16 : decode cX10_divides 16 = .ok (.iload_n 2, 1) := by decide +kernel
theorem dX10_divides_17 : decode cX10_divides 17 = .ok (.laload, 1) := by decide +kernel
theorem dX10_divides_18 : decode cX10_divides 18 = .ok (.invokestatic 228, 3) := by decide +kernel
theorem dX10_divides_21 : decode cX10_divides 21 = .ok (.ifCond .eq 7, 3) := by decide +kernel
theorem dX10_divides_24 : decode cX10_divides 24 = .ok (.iconst 1, 1) := by decide +kernel
theorem dX10_divides_25 : decode cX10_divides 25 = .ok (.goto 4, 3) := by decide +kernel
theorem dX10_divides_28 : decode cX10_divides 28 = .ok (.iconst 0, 1) := by decide +kernel
theorem dX10_divides_29 : decode cX10_divides 29 = .ok (.ireturn, 1) := by decide +kernel
theorem dX10_sharesStrongly_0 : decode cX10_sharesStrongly 0 = .ok (.iload_n 1, 1) := by decide +kernel
theorem dX10_sharesStrongly_1 : decode cX10_sharesStrongly 1 = .ok (.i2l, 1) := by decide +kernel
theorem dX10_sharesStrongly_2 : decode cX10_sharesStrongly 2 = .ok (.iload_n 2, 1) := by decide +kernel
theorem dX10_sharesStrongly_3 : decode cX10_sharesStrongly 3 = .ok (.i2l, 1) := by decide +kernel
theorem dX10_sharesStrongly_4 : decode cX10_sharesStrongly 4 = .ok (.invokestatic 141, 3) := by decide +kernel
theorem dX10_sharesStrongly_7 : decode cX10_sharesStrongly 7 = .ok (.l2i, 1) := by decide +kernel
theorem dX10_sharesStrongly_8 : decode cX10_sharesStrongly 8 = .ok (.istore_n 3, 1) := by decide +kernel
theorem dX10_sharesStrongly_9 : decode cX10_sharesStrongly 9 = .ok (.aload_n 0, 1) := by decide +kernel
theorem dX10_sharesStrongly_10 : decode cX10_sharesStrongly 10 = .ok (.getfield 64, 3) := by decide +kernel
theorem dX10_sharesStrongly_13 : decode cX10_sharesStrongly 13 = .ok (.iload_n 1, 1) := by decide +kernel
theorem dX10_sharesStrongly_14 : decode cX10_sharesStrongly 14 = .ok (.laload, 1) := by decide +kernel
theorem dX10_sharesStrongly_15 : decode cX10_sharesStrongly 15 = .ok (.aload_n 0, 1) := by decide +kernel
theorem dX10_sharesStrongly_16 : decode cX10_sharesStrongly 16 = .ok (.getfield 64, 3) := by decide +kernel
theorem dX10_sharesStrongly_19 : decode cX10_sharesStrongly 19 = .ok (.iload_n 2, 1) := by decide +kernel
theorem dX10_sharesStrongly_20 : decode cX10_sharesStrongly 20 = .ok (.laload, 1) := by decide +kernel
theorem dX10_sharesStrongly_21 : decode cX10_sharesStrongly 21 = .ok (.invokestatic 141, 3) := by decide +kernel
theorem dX10_sharesStrongly_24 : decode cX10_sharesStrongly 24 = .ok (.aload_n 0, 1) := by decide +kernel
theorem dX10_sharesStrongly_25 : decode cX10_sharesStrongly 25 = .ok (.getfield 64, 3) := by decide +kernel
theorem dX10_sharesStrongly_28 : decode cX10_sharesStrongly 28 = .ok (.iload_n 3, 1) := by decide +kernel
theorem dX10_sharesStrongly_29 : decode cX10_sharesStrongly 29 = .ok (.laload, 1) := by decide +kernel
theorem dX10_sharesStrongly_30 : decode cX10_sharesStrongly 30 = .ok (.invokestatic 232, 3) := by decide +kernel
theorem dX10_sharesStrongly_33 : decode cX10_sharesStrongly 33 = .ok (.lcmp, 1) := by decide +kernel
theorem dX10_sharesStrongly_34 : decode cX10_sharesStrongly 34 = .ok (.ifCond .ne 7, 3) := by decide +kernel
theorem dX10_sharesStrongly_37 : decode cX10_sharesStrongly 37 = .ok (.iconst 1, 1) := by decide +kernel
theorem dX10_sharesStrongly_38 : decode cX10_sharesStrongly 38 = .ok (.goto 4, 3) := by decide +kernel
theorem dX10_sharesStrongly_41 : decode cX10_sharesStrongly 41 = .ok (.iconst 0, 1) := by decide +kernel
theorem dX10_sharesStrongly_42 : decode cX10_sharesStrongly 42 = .ok (.ireturn, 1) := by decide +kernel
theorem dX10_isPart_0 : decode cX10_isPart 0 = .ok (.lload_n 0, 1) := by decide +kernel
theorem dX10_isPart_1 : decode cX10_isPart 1 = .ok (.lconst 0, 1) := by decide +kernel
theorem dX10_isPart_2 : decode cX10_isPart 2 = .ok (.lcmp, 1) := by decide +kernel
theorem dX10_isPart_3 : decode cX10_isPart 3 = .ok (.ifCond .ne 17, 3) := by decide +kernel
theorem dX10_isPart_6 : decode cX10_isPart 6 = .ok (.lload_n 2, 1) := by decide +kernel
theorem dX10_isPart_7 : decode cX10_isPart 7 = .ok (.lconst 0, 1) := by decide +kernel
theorem dX10_isPart_8 : decode cX10_isPart 8 = .ok (.lcmp, 1) := by decide +kernel
theorem dX10_isPart_9 : decode cX10_isPart 9 = .ok (.ifCond .ne 7, 3) := by decide +kernel
theorem dX10_isPart_12 : decode cX10_isPart 12 = .ok (.iconst 1, 1) := by decide +kernel
theorem dX10_isPart_13 : decode cX10_isPart 13 = .ok (.goto 20, 3) := by decide +kernel
theorem dX10_isPart_16 : decode cX10_isPart 16 = .ok (.iconst 0, 1) := by decide +kernel
theorem dX10_isPart_17 : decode cX10_isPart 17 = .ok (.goto 16, 3) := by decide +kernel
theorem dX10_isPart_20 : decode cX10_isPart 20 = .ok (.lload_n 2, 1) := by decide +kernel
theorem dX10_isPart_21 : decode cX10_isPart 21 = .ok (.lload_n 0, 1) := by decide +kernel
theorem dX10_isPart_22 : decode cX10_isPart 22 = .ok (.lrem, 1) := by decide +kernel
theorem dX10_isPart_23 : decode cX10_isPart 23 = .ok (.lconst 0, 1) := by decide +kernel
theorem dX10_isPart_24 : decode cX10_isPart 24 = .ok (.lcmp, 1) := by decide +kernel
theorem dX10_isPart_25 : decode cX10_isPart 25 = .ok (.ifCond .ne 7, 3) := by decide +kernel
theorem dX10_isPart_28 : decode cX10_isPart 28 = .ok (.iconst 1, 1) := by decide +kernel
theorem dX10_isPart_29 : decode cX10_isPart 29 = .ok (.goto 4, 3) := by decide +kernel
theorem dX10_isPart_32 : decode cX10_isPart 32 = .ok (.iconst 0, 1) := by decide +kernel
theorem dX10_isPart_33 : decode cX10_isPart 33 = .ok (.ireturn, 1) := by decide +kernel
theorem dX10_isMeasure_0 : decode cX10_isMeasure 0 = .ok (.iload_n 0, 1) := by decide +kernel
theorem dX10_isMeasure_1 : decode cX10_isMeasure 1 = .ok (.tableswitch 59 4 7 #[31, 59, 39, 48], 31) := by decide +kernel
theorem dX10_isMeasure_32 : decode cX10_isMeasure 32 = .ok (.iload_n 1, 1) := by decide +kernel
theorem dX10_isMeasure_33 : decode cX10_isMeasure 33 = .ok (.iconst 2, 1) := by decide +kernel
theorem dX10_isMeasure_34 : decode cX10_isMeasure 34 = .ok (.bipush 6, 2) := by decide +kernel
theorem dX10_isMeasure_36 : decode cX10_isMeasure 36 = .ok (.invokestatic 100, 3) := by decide +kernel
theorem dX10_isMeasure_39 : decode cX10_isMeasure 39 = .ok (.ireturn, 1) := by decide +kernel
theorem dX10_isMeasure_40 : decode cX10_isMeasure 40 = .ok (.iload_n 1, 1) := by decide +kernel
theorem dX10_isMeasure_41 : decode cX10_isMeasure 41 = .ok (.iconst 0, 1) := by decide +kernel
theorem dX10_isMeasure_42 : decode cX10_isMeasure 42 = .ok (.sipush 1000, 3) := by decide +kernel
theorem dX10_isMeasure_45 : decode cX10_isMeasure 45 = .ok (.invokestatic 100, 3) := by decide +kernel
theorem dX10_isMeasure_48 : decode cX10_isMeasure 48 = .ok (.ireturn, 1) := by decide +kernel
theorem dX10_isMeasure_49 : decode cX10_isMeasure 49 = .ok (.iload_n 1, 1) := by decide +kernel
theorem dX10_isMeasure_50 : decode cX10_isMeasure 50 = .ok (.sipush (-1000), 3) := by decide +kernel
theorem dX10_isMeasure_53 : decode cX10_isMeasure 53 = .ok (.sipush 1000, 3) := by decide +kernel
theorem dX10_isMeasure_56 : decode cX10_isMeasure 56 = .ok (.invokestatic 100, 3) := by decide +kernel
theorem dX10_isMeasure_59 : decode cX10_isMeasure 59 = .ok (.ireturn, 1) := by decide +kernel
theorem dX10_isMeasure_60 : decode cX10_isMeasure 60 = .ok (.iconst 1, 1) := by decide +kernel
theorem dX10_isMeasure_61 : decode cX10_isMeasure 61 = .ok (.ireturn, 1) := by decide +kernel
theorem dX10_isRegister_0 : decode cX10_isRegister 0 = .ok (.iload_n 0, 1) := by decide +kernel
theorem dX10_isRegister_1 : decode cX10_isRegister 1 = .ok (.iconst 0, 1) := by decide +kernel
theorem dX10_isRegister_2 : decode cX10_isRegister 2 = .ok (.iconst 5, 1) := by decide +kernel
theorem dX10_isRegister_3 : decode cX10_isRegister 3 = .ok (.invokestatic 100, 3) := by decide +kernel
theorem dX10_isRegister_6 : decode cX10_isRegister 6 = .ok (.ireturn, 1) := by decide +kernel
theorem dX10_isIn_0 : decode cX10_isIn 0 = .ok (.iload_n 0, 1) := by decide +kernel
theorem dX10_isIn_1 : decode cX10_isIn 1 = .ok (.iload_n 1, 1) := by decide +kernel
theorem dX10_isIn_2 : decode cX10_isIn 2 = .ok (.if_icmp .lt 12, 3) := by decide +kernel
theorem dX10_isIn_5 : decode cX10_isIn 5 = .ok (.iload_n 0, 1) := by decide +kernel
theorem dX10_isIn_6 : decode cX10_isIn 6 = .ok (.iload_n 2, 1) := by decide +kernel
theorem dX10_isIn_7 : decode cX10_isIn 7 = .ok (.if_icmp .gt 7, 3) := by decide +kernel
theorem dX10_isIn_10 : decode cX10_isIn 10 = .ok (.iconst 1, 1) := by decide +kernel
theorem dX10_isIn_11 : decode cX10_isIn 11 = .ok (.goto 4, 3) := by decide +kernel
theorem dX10_isIn_14 : decode cX10_isIn 14 = .ok (.iconst 0, 1) := by decide +kernel
theorem dX10_isIn_15 : decode cX10_isIn 15 = .ok (.ireturn, 1) := by decide +kernel
theorem dX10_isPrime_0 : decode cX10_isPrime 0 = .ok (.iload_n 0, 1) := by decide +kernel
theorem dX10_isPrime_1 : decode cX10_isPrime 1 = .ok (.iconst 2, 1) := by decide +kernel
theorem dX10_isPrime_2 : decode cX10_isPrime 2 = .ok (.bipush 97, 2) := by decide +kernel
theorem dX10_isPrime_4 : decode cX10_isPrime 4 = .ok (.invokestatic 100, 3) := by decide +kernel
theorem dX10_isPrime_7 : decode cX10_isPrime 7 = .ok (.ifCond .ne 5, 3) := by decide +kernel
theorem dX10_isPrime_10 : decode cX10_isPrime 10 = .ok (.iconst 0, 1) := by decide +kernel
theorem dX10_isPrime_11 : decode cX10_isPrime 11 = .ok (.ireturn, 1) := by decide +kernel
theorem dX10_isPrime_12 : decode cX10_isPrime 12 = .ok (.iconst 2, 1) := by decide +kernel
theorem dX10_isPrime_13 : decode cX10_isPrime 13 = .ok (.istore_n 1, 1) := by decide +kernel
theorem dX10_isPrime_14 : decode cX10_isPrime 14 = .ok (.iload_n 1, 1) := by decide +kernel
theorem dX10_isPrime_15 : decode cX10_isPrime 15 = .ok (.iload_n 1, 1) := by decide +kernel
theorem dX10_isPrime_16 : decode cX10_isPrime 16 = .ok (.imul, 1) := by decide +kernel
theorem dX10_isPrime_17 : decode cX10_isPrime 17 = .ok (.iload_n 0, 1) := by decide +kernel
theorem dX10_isPrime_18 : decode cX10_isPrime 18 = .ok (.if_icmp .gt 17, 3) := by decide +kernel
theorem dX10_isPrime_21 : decode cX10_isPrime 21 = .ok (.iload_n 0, 1) := by decide +kernel
theorem dX10_isPrime_22 : decode cX10_isPrime 22 = .ok (.iload_n 1, 1) := by decide +kernel
theorem dX10_isPrime_23 : decode cX10_isPrime 23 = .ok (.irem, 1) := by decide +kernel
theorem dX10_isPrime_24 : decode cX10_isPrime 24 = .ok (.ifCond .ne 5, 3) := by decide +kernel
theorem dX10_isPrime_27 : decode cX10_isPrime 27 = .ok (.iconst 0, 1) := by decide +kernel
theorem dX10_isPrime_28 : decode cX10_isPrime 28 = .ok (.ireturn, 1) := by decide +kernel
theorem dX10_isPrime_29 : decode cX10_isPrime 29 = .ok (.iinc 1 1, 3) := by decide +kernel
theorem dX10_isPrime_32 : decode cX10_isPrime 32 = .ok (.goto (-18), 3) := by decide +kernel
theorem dX10_isPrime_35 : decode cX10_isPrime 35 = .ok (.iconst 1, 1) := by decide +kernel
theorem dX10_isPrime_36 : decode cX10_isPrime 36 = .ok (.ireturn, 1) := by decide +kernel
theorem dX10_commonPart_0 : decode cX10_commonPart 0 = .ok (.lload_n 0, 1) := by decide +kernel
theorem dX10_commonPart_1 : decode cX10_commonPart 1 = .ok (.invokestatic 232, 3) := by decide +kernel
theorem dX10_commonPart_4 : decode cX10_commonPart 4 = .ok (.lstore 4, 2) := by decide +kernel
theorem dX10_commonPart_6 : decode cX10_commonPart 6 = .ok (.lload_n 2, 1) := by decide +kernel
theorem dX10_commonPart_7 : decode cX10_commonPart 7 = .ok (.invokestatic 232, 3) := by decide +kernel
theorem dX10_commonPart_10 : decode cX10_commonPart 10 = .ok (.lstore 6, 2) := by decide +kernel
theorem dX10_commonPart_12 : decode cX10_commonPart 12 = .ok (.iconst 0, 1) := by decide +kernel
theorem dX10_commonPart_13 : decode cX10_commonPart 13 = .ok (.istore 8, 2) := by decide +kernel
theorem dX10_commonPart_15 : decode cX10_commonPart 15 = .ok (.iload 8, 2) := by decide +kernel
theorem dX10_commonPart_17 : decode cX10_commonPart 17 = .ok (.sipush 128, 3) := by decide +kernel
theorem dX10_commonPart_20 : decode cX10_commonPart 20 = .ok (.if_icmp .ge 31, 3) := by decide +kernel
theorem dX10_commonPart_23 : decode cX10_commonPart 23 = .ok (.lload 6, 2) := by decide +kernel
theorem dX10_commonPart_25 : decode cX10_commonPart 25 = .ok (.lconst 0, 1) := by decide +kernel
theorem dX10_commonPart_26 : decode cX10_commonPart 26 = .ok (.lcmp, 1) := by decide +kernel
theorem dX10_commonPart_27 : decode cX10_commonPart 27 = .ok (.ifCond .eq 24, 3) := by decide +kernel
theorem dX10_commonPart_30 : decode cX10_commonPart 30 = .ok (.lload 4, 2) := by decide +kernel
theorem dX10_commonPart_32 : decode cX10_commonPart 32 = .ok (.lload 6, 2) := by decide +kernel
theorem dX10_commonPart_34 : decode cX10_commonPart 34 = .ok (.lrem, 1) := by decide +kernel
theorem dX10_commonPart_35 : decode cX10_commonPart 35 = .ok (.lstore 9, 2) := by decide +kernel
theorem dX10_commonPart_37 : decode cX10_commonPart 37 = .ok (.lload 6, 2) := by decide +kernel
theorem dX10_commonPart_39 : decode cX10_commonPart 39 = .ok (.lstore 4, 2) := by decide +kernel
theorem dX10_commonPart_41 : decode cX10_commonPart 41 = .ok (.lload 9, 2) := by decide +kernel
theorem dX10_commonPart_43 : decode cX10_commonPart 43 = .ok (.lstore 6, 2) := by decide +kernel
theorem dX10_commonPart_45 : decode cX10_commonPart 45 = .ok (.iinc 8 1, 3) := by decide +kernel
theorem dX10_commonPart_48 : decode cX10_commonPart 48 = .ok (.goto (-33), 3) := by decide +kernel
theorem dX10_commonPart_51 : decode cX10_commonPart 51 = .ok (.lload 4, 2) := by decide +kernel
theorem dX10_commonPart_53 : decode cX10_commonPart 53 = .ok (.lreturn, 1) := by decide +kernel
theorem dX10_inverse_0 : decode cX10_inverse 0 = .ok (.iload_n 2, 1) := by decide +kernel
theorem dX10_inverse_1 : decode cX10_inverse 1 = .ok (.i2l, 1) := by decide +kernel
theorem dX10_inverse_2 : decode cX10_inverse 2 = .ok (.lstore_n 3, 1) := by decide +kernel
theorem dX10_inverse_3 : decode cX10_inverse 3 = .ok (.lload_n 0, 1) := by decide +kernel
theorem dX10_inverse_4 : decode cX10_inverse 4 = .ok (.iload_n 2, 1) := by decide +kernel
theorem dX10_inverse_5 : decode cX10_inverse 5 = .ok (.i2l, 1) := by decide +kernel
theorem dX10_inverse_6 : decode cX10_inverse 6 = .ok (.invokestatic 236, 3) := by decide +kernel
theorem dX10_inverse_9 : decode cX10_inverse 9 = .ok (.lstore 5, 2) := by decide +kernel
theorem dX10_inverse_11 : decode cX10_inverse 11 = .ok (.lconst 0, 1) := by decide +kernel
theorem dX10_inverse_12 : decode cX10_inverse 12 = .ok (.lstore 7, 2) := by decide +kernel
theorem dX10_inverse_14 : decode cX10_inverse 14 = .ok (.lconst 1, 1) := by decide +kernel
theorem dX10_inverse_15 : decode cX10_inverse 15 = .ok (.lstore 9, 2) := by decide +kernel
theorem dX10_inverse_17 : decode cX10_inverse 17 = .ok (.iconst 0, 1) := by decide +kernel
theorem dX10_inverse_18 : decode cX10_inverse 18 = .ok (.istore 11, 2) := by decide +kernel
theorem dX10_inverse_20 : decode cX10_inverse 20 = .ok (.iload 11, 2) := by decide +kernel
theorem dX10_inverse_22 : decode cX10_inverse 22 = .ok (.sipush 128, 3) := by decide +kernel
theorem dX10_inverse_25 : decode cX10_inverse 25 = .ok (.if_icmp .ge 56, 3) := by decide +kernel
theorem dX10_inverse_28 : decode cX10_inverse 28 = .ok (.lload 5, 2) := by decide +kernel
theorem dX10_inverse_30 : decode cX10_inverse 30 = .ok (.lconst 0, 1) := by decide +kernel
theorem dX10_inverse_31 : decode cX10_inverse 31 = .ok (.lcmp, 1) := by decide +kernel
theorem dX10_inverse_32 : decode cX10_inverse 32 = .ok (.ifCond .eq 49, 3) := by decide +kernel
theorem dX10_inverse_35 : decode cX10_inverse 35 = .ok (.lload_n 3, 1) := by decide +kernel
theorem dX10_inverse_36 : decode cX10_inverse 36 = .ok (.lload 5, 2) := by decide +kernel
theorem dX10_inverse_38 : decode cX10_inverse 38 = .ok (.ldiv, 1) := by decide +kernel
theorem dX10_inverse_39 : decode cX10_inverse 39 = .ok (.lstore 12, 2) := by decide +kernel
theorem dX10_inverse_41 : decode cX10_inverse 41 = .ok (.lload_n 3, 1) := by decide +kernel
theorem dX10_inverse_42 : decode cX10_inverse 42 = .ok (.lload 12, 2) := by decide +kernel
theorem dX10_inverse_44 : decode cX10_inverse 44 = .ok (.lload 5, 2) := by decide +kernel
theorem dX10_inverse_46 : decode cX10_inverse 46 = .ok (.lmul, 1) := by decide +kernel
theorem dX10_inverse_47 : decode cX10_inverse 47 = .ok (.lsub, 1) := by decide +kernel
theorem dX10_inverse_48 : decode cX10_inverse 48 = .ok (.lstore 14, 2) := by decide +kernel
theorem dX10_inverse_50 : decode cX10_inverse 50 = .ok (.lload 7, 2) := by decide +kernel
theorem dX10_inverse_52 : decode cX10_inverse 52 = .ok (.lload 12, 2) := by decide +kernel
theorem dX10_inverse_54 : decode cX10_inverse 54 = .ok (.lload 9, 2) := by decide +kernel
theorem dX10_inverse_56 : decode cX10_inverse 56 = .ok (.lmul, 1) := by decide +kernel
theorem dX10_inverse_57 : decode cX10_inverse 57 = .ok (.lsub, 1) := by decide +kernel
theorem dX10_inverse_58 : decode cX10_inverse 58 = .ok (.lstore 16, 2) := by decide +kernel
theorem dX10_inverse_60 : decode cX10_inverse 60 = .ok (.lload 5, 2) := by decide +kernel
theorem dX10_inverse_62 : decode cX10_inverse 62 = .ok (.lstore_n 3, 1) := by decide +kernel
theorem dX10_inverse_63 : decode cX10_inverse 63 = .ok (.lload 14, 2) := by decide +kernel
theorem dX10_inverse_65 : decode cX10_inverse 65 = .ok (.lstore 5, 2) := by decide +kernel
theorem dX10_inverse_67 : decode cX10_inverse 67 = .ok (.lload 9, 2) := by decide +kernel
theorem dX10_inverse_69 : decode cX10_inverse 69 = .ok (.lstore 7, 2) := by decide +kernel
theorem dX10_inverse_71 : decode cX10_inverse 71 = .ok (.lload 16, 2) := by decide +kernel
theorem dX10_inverse_73 : decode cX10_inverse 73 = .ok (.lstore 9, 2) := by decide +kernel
theorem dX10_inverse_75 : decode cX10_inverse 75 = .ok (.iinc 11 1, 3) := by decide +kernel
theorem dX10_inverse_78 : decode cX10_inverse 78 = .ok (.goto (-58), 3) := by decide +kernel
theorem dX10_inverse_81 : decode cX10_inverse 81 = .ok (.lload 7, 2) := by decide +kernel
theorem dX10_inverse_83 : decode cX10_inverse 83 = .ok (.iload_n 2, 1) := by decide +kernel
theorem dX10_inverse_84 : decode cX10_inverse 84 = .ok (.i2l, 1) := by decide +kernel
theorem dX10_inverse_85 : decode cX10_inverse 85 = .ok (.invokestatic 236, 3) := by decide +kernel
theorem dX10_inverse_88 : decode cX10_inverse 88 = .ok (.l2i, 1) := by decide +kernel
theorem dX10_inverse_89 : decode cX10_inverse 89 = .ok (.ireturn, 1) := by decide +kernel
theorem dX11_init_0 : decode cX11_init 0 = .ok (.aload_n 0, 1) := by decide +kernel
theorem dX11_init_1 : decode cX11_init 1 = .ok (.invokespecial 1, 3) := by decide +kernel
theorem dX11_init_4 : decode cX11_init 4 = .ok (.aload_n 0, 1) := by decide +kernel
theorem dX11_init_5 : decode cX11_init 5 = .ok (.bipush 7, 2) := by decide +kernel
theorem dX11_init_7 : decode cX11_init 7 = .ok (.newarray .int, 2) := by decide +kernel
theorem dX11_init_9 : decode cX11_init 9 = .ok (.putfield 7, 3) := by decide +kernel
theorem dX11_init_12 : decode cX11_init 12 = .ok (.aload_n 0, 1) := by decide +kernel
theorem dX11_init_13 : decode cX11_init 13 = .ok (.bipush 42, 2) := by decide +kernel
theorem dX11_init_15 : decode cX11_init 15 = .ok (.newarray .long, 2) := by decide +kernel
theorem dX11_init_17 : decode cX11_init 17 = .ok (.putfield 13, 3) := by decide +kernel
theorem dX11_init_20 : decode cX11_init 20 = .ok (.aload_n 0, 1) := by decide +kernel
theorem dX11_init_21 : decode cX11_init 21 = .ok (.bipush 42, 2) := by decide +kernel
theorem dX11_init_23 : decode cX11_init 23 = .ok (.newarray .long, 2) := by decide +kernel
theorem dX11_init_25 : decode cX11_init 25 = .ok (.putfield 17, 3) := by decide +kernel
theorem dX11_init_28 : decode cX11_init 28 = .ok (.aload_n 0, 1) := by decide +kernel
theorem dX11_init_29 : decode cX11_init 29 = .ok (.bipush 100, 2) := by decide +kernel
theorem dX11_init_31 : decode cX11_init 31 = .ok (.newarray .int, 2) := by decide +kernel
theorem dX11_init_33 : decode cX11_init 33 = .ok (.putfield 20, 3) := by decide +kernel
theorem dX11_init_36 : decode cX11_init 36 = .ok (.aload_n 0, 1) := by decide +kernel
theorem dX11_init_37 : decode cX11_init 37 = .ok (.iconst 2, 1) := by decide +kernel
theorem dX11_init_38 : decode cX11_init 38 = .ok (.putfield 23, 3) := by decide +kernel
theorem dX11_init_41 : decode cX11_init 41 = .ok (.aload_n 0, 1) := by decide +kernel
theorem dX11_init_42 : decode cX11_init 42 = .ok (.bipush 40, 2) := by decide +kernel
theorem dX11_init_44 : decode cX11_init 44 = .ok (.newarray .int, 2) := by decide +kernel
theorem dX11_init_46 : decode cX11_init 46 = .ok (.putfield 27, 3) := by decide +kernel
theorem dX11_init_49 : decode cX11_init 49 = .ok (.aload_n 0, 1) := by decide +kernel
theorem dX11_init_50 : decode cX11_init 50 = .ok (.sipush 2001, 3) := by decide +kernel
theorem dX11_init_53 : decode cX11_init 53 = .ok (.newarray .long, 2) := by decide +kernel
theorem dX11_init_55 : decode cX11_init 55 = .ok (.putfield 30, 3) := by decide +kernel
theorem dX11_init_58 : decode cX11_init 58 = .ok (.aload_n 0, 1) := by decide +kernel
theorem dX11_init_59 : decode cX11_init 59 = .ok (.bipush 6, 2) := by decide +kernel
theorem dX11_init_61 : decode cX11_init 61 = .ok (.newarray .long, 2) := by decide +kernel
theorem dX11_init_63 : decode cX11_init 63 = .ok (.putfield 33, 3) := by decide +kernel
theorem dX11_init_66 : decode cX11_init 66 = .ok (.aload_n 0, 1) := by decide +kernel
theorem dX11_init_67 : decode cX11_init 67 = .ok (.bipush 6, 2) := by decide +kernel
theorem dX11_init_69 : decode cX11_init 69 = .ok (.newarray .long, 2) := by decide +kernel
theorem dX11_init_71 : decode cX11_init 71 = .ok (.putfield 36, 3) := by decide +kernel
theorem dX11_init_74 : decode cX11_init 74 = .ok (.aload_n 0, 1) := by decide +kernel
theorem dX11_init_75 : decode cX11_init 75 = .ok (.bipush 12, 2) := by decide +kernel
theorem dX11_init_77 : decode cX11_init 77 = .ok (.newarray .long, 2) := by decide +kernel
theorem dX11_init_79 : decode cX11_init 79 = .ok (.putfield 39, 3) := by decide +kernel
theorem dX11_init_82 : decode cX11_init 82 = .ok (.aload_n 0, 1) := by decide +kernel
theorem dX11_init_83 : decode cX11_init 83 = .ok (.bipush 6, 2) := by decide +kernel
theorem dX11_init_85 : decode cX11_init 85 = .ok (.newarray .long, 2) := by decide +kernel
theorem dX11_init_87 : decode cX11_init 87 = .ok (.putfield 42, 3) := by decide +kernel
theorem dX11_init_90 : decode cX11_init 90 = .ok (.aload_n 0, 1) := by decide +kernel
theorem dX11_init_91 : decode cX11_init 91 = .ok (.bipush 6, 2) := by decide +kernel
theorem dX11_init_93 : decode cX11_init 93 = .ok (.newarray .long, 2) := by decide +kernel
theorem dX11_init_95 : decode cX11_init 95 = .ok (.putfield 45, 3) := by decide +kernel
theorem dX11_init_98 : decode cX11_init 98 = .ok (.aload_n 0, 1) := by decide +kernel
theorem dX11_init_99 : decode cX11_init 99 = .ok (.sipush 1700, 3) := by decide +kernel
theorem dX11_init_102 : decode cX11_init 102 = .ok (.newarray .long, 2) := by decide +kernel
theorem dX11_init_104 : decode cX11_init 104 = .ok (.putfield 48, 3) := by decide +kernel
theorem dX11_init_107 : decode cX11_init 107 = .ok (.aload_n 0, 1) := by decide +kernel
theorem dX11_init_108 : decode cX11_init 108 = .ok (.bipush 41, 2) := by decide +kernel
theorem dX11_init_110 : decode cX11_init 110 = .ok (.newarray .long, 2) := by decide +kernel
theorem dX11_init_112 : decode cX11_init 112 = .ok (.putfield 51, 3) := by decide +kernel
theorem dX11_init_115 : decode cX11_init 115 = .ok (.aload_n 0, 1) := by decide +kernel
theorem dX11_init_116 : decode cX11_init 116 = .ok (.bipush 14, 2) := by decide +kernel
theorem dX11_init_118 : decode cX11_init 118 = .ok (.newarray .long, 2) := by decide +kernel
theorem dX11_init_120 : decode cX11_init 120 = .ok (.putfield 54, 3) := by decide +kernel
theorem dX11_init_123 : decode cX11_init 123 = .ok (.aload_n 0, 1) := by decide +kernel
theorem dX11_init_124 : decode cX11_init 124 = .ok (.bipush 37, 2) := by decide +kernel
theorem dX11_init_126 : decode cX11_init 126 = .ok (.newarray .long, 2) := by decide +kernel
theorem dX11_init_128 : decode cX11_init 128 = .ok (.putfield 57, 3) := by decide +kernel
theorem dX11_init_131 : decode cX11_init 131 = .ok (.aload_n 0, 1) := by decide +kernel
theorem dX11_init_132 : decode cX11_init 132 = .ok (.bipush 37, 2) := by decide +kernel
theorem dX11_init_134 : decode cX11_init 134 = .ok (.newarray .long, 2) := by decide +kernel
theorem dX11_init_136 : decode cX11_init 136 = .ok (.putfield 60, 3) := by decide +kernel
theorem dX11_init_139 : decode cX11_init 139 = .ok (.aload_n 0, 1) := by decide +kernel
theorem dX11_init_140 : decode cX11_init 140 = .ok (.bipush 7, 2) := by decide +kernel
theorem dX11_init_142 : decode cX11_init 142 = .ok (.newarray .long, 2) := by decide +kernel
theorem dX11_init_144 : decode cX11_init 144 = .ok (.putfield 63, 3) := by decide +kernel
theorem dX11_init_147 : decode cX11_init 147 = .ok (.aload_n 0, 1) := by decide +kernel
theorem dX11_init_148 : decode cX11_init 148 = .ok (.bipush 100, 2) := by decide +kernel
theorem dX11_init_150 : decode cX11_init 150 = .ok (.newarray .long, 2) := by decide +kernel
theorem dX11_init_152 : decode cX11_init 152 = .ok (.putfield 66, 3) := by decide +kernel
theorem dX11_init_155 : decode cX11_init 155 = .ok (.aload_n 0, 1) := by decide +kernel
theorem dX11_init_156 : decode cX11_init 156 = .ok (.bipush 7, 2) := by decide +kernel
theorem dX11_init_158 : decode cX11_init 158 = .ok (.newarray .long, 2) := by decide +kernel
theorem dX11_init_160 : decode cX11_init 160 = .ok (.putfield 69, 3) := by decide +kernel
theorem dX11_init_163 : decode cX11_init 163 = .ok (.aload_n 0, 1) := by decide +kernel
theorem dX11_init_164 : decode cX11_init 164 = .ok (.iconst 4, 1) := by decide +kernel
theorem dX11_init_165 : decode cX11_init 165 = .ok (.newarray .long, 2) := by decide +kernel
theorem dX11_init_167 : decode cX11_init 167 = .ok (.putfield 72, 3) := by decide +kernel
theorem dX11_init_170 : decode cX11_init 170 = .ok (.aload_n 0, 1) := by decide +kernel
theorem dX11_init_171 : decode cX11_init 171 = .ok (.bipush 7, 2) := by decide +kernel
theorem dX11_init_173 : decode cX11_init 173 = .ok (.newarray .long, 2) := by decide +kernel
theorem dX11_init_175 : decode cX11_init 175 = .ok (.putfield 75, 3) := by decide +kernel
theorem dX11_init_178 : decode cX11_init 178 = .ok (.iconst 0, 1) := by decide +kernel
theorem dX11_init_179 : decode cX11_init 179 = .ok (.istore_n 1, 1) := by decide +kernel
theorem dX11_init_180 : decode cX11_init 180 = .ok (.iload_n 1, 1) := by decide +kernel
theorem dX11_init_181 : decode cX11_init 181 = .ok (.bipush 7, 2) := by decide +kernel
theorem dX11_init_183 : decode cX11_init 183 = .ok (.if_icmp .ge 26, 3) := by decide +kernel
theorem dX11_init_186 : decode cX11_init 186 = .ok (.aload_n 0, 1) := by decide +kernel
theorem dX11_init_187 : decode cX11_init 187 = .ok (.getfield 7, 3) := by decide +kernel
theorem dX11_init_190 : decode cX11_init 190 = .ok (.iload_n 1, 1) := by decide +kernel
theorem dX11_init_191 : decode cX11_init 191 = .ok (.iconst 1, 1) := by decide +kernel
theorem dX11_init_192 : decode cX11_init 192 = .ok (.iastore, 1) := by decide +kernel
theorem dX11_init_193 : decode cX11_init 193 = .ok (.aload_n 0, 1) := by decide +kernel
theorem dX11_init_194 : decode cX11_init 194 = .ok (.getfield 13, 3) := by decide +kernel
theorem dX11_init_197 : decode cX11_init 197 = .ok (.bipush 6, 2) := by decide +kernel
theorem dX11_init_199 : decode cX11_init 199 = .ok (.iload_n 1, 1) := by decide +kernel
theorem dX11_init_200 : decode cX11_init 200 = .ok (.imul, 1) := by decide +kernel
theorem dX11_init_201 : decode cX11_init 201 = .ok (.lconst 1, 1) := by decide +kernel
theorem dX11_init_202 : decode cX11_init 202 = .ok (.lastore, 1) := by decide +kernel
theorem dX11_init_203 : decode cX11_init 203 = .ok (.iinc 1 1, 3) := by decide +kernel
theorem dX11_init_206 : decode cX11_init 206 = .ok (.goto (-26), 3) := by decide +kernel
theorem dX11_init_209 : decode cX11_init 209 = .ok (.return_, 1) := by decide +kernel
theorem dX11_in_0 : decode cX11_in 0 = .ok (.lload_n 0, 1) := by decide +kernel
theorem dX11_in_1 : decode cX11_in 1 = .ok (.lload_n 2, 1) := by decide +kernel
theorem dX11_in_2 : decode cX11_in 2 = .ok (.lcmp, 1) := by decide +kernel
theorem dX11_in_3 : decode cX11_in 3 = .ok (.ifCond .lt 14, 3) := by decide +kernel
theorem dX11_in_6 : decode cX11_in 6 = .ok (.lload_n 0, 1) := by decide +kernel
theorem dX11_in_7 : decode cX11_in 7 = .ok (.lload 4, 2) := by decide +kernel
theorem dX11_in_9 : decode cX11_in 9 = .ok (.lcmp, 1) := by decide +kernel
theorem dX11_in_10 : decode cX11_in 10 = .ok (.ifCond .gt 7, 3) := by decide +kernel
theorem dX11_in_13 : decode cX11_in 13 = .ok (.iconst 1, 1) := by decide +kernel
theorem dX11_in_14 : decode cX11_in 14 = .ok (.goto 4, 3) := by decide +kernel
theorem dX11_in_17 : decode cX11_in 17 = .ok (.iconst 0, 1) := by decide +kernel
theorem dX11_in_18 : decode cX11_in 18 = .ok (.ireturn, 1) := by decide +kernel
theorem dX11_isReg_0 : decode cX11_isReg 0 = .ok (.iload_n 0, 1) := by decide +kernel
theorem dX11_isReg_1 : decode cX11_isReg 1 = .ok (.i2l, 1) := by decide +kernel
theorem dX11_isReg_2 : decode cX11_isReg 2 = .ok (.lconst 0, 1) := by decide +kernel
theorem dX11_isReg_3 : decode cX11_isReg 3 = .ok (.ldc2_w 78, 3) := by decide +kernel
theorem dX11_isReg_6 : decode cX11_isReg 6 = .ok (.invokestatic 80, 3) := by decide +kernel
theorem dX11_isReg_9 : decode cX11_isReg 9 = .ok (.ireturn, 1) := by decide +kernel
theorem dX11_size_0 : decode cX11_size 0 = .ok (.lload_n 0, 1) := by decide +kernel
theorem dX11_size_1 : decode cX11_size 1 = .ok (.lconst 0, 1) := by decide +kernel
theorem dX11_size_2 : decode cX11_size 2 = .ok (.lcmp, 1) := by decide +kernel
theorem dX11_size_3 : decode cX11_size 3 = .ok (.ifCond .ge 8, 3) := by decide +kernel
theorem dX11_size_6 : decode cX11_size 6 = .ok (.lload_n 0, 1) := by decide +kernel
theorem dX11_size_7 : decode cX11_size 7 = .ok (.lneg, 1) := by decide +kernel
theorem dX11_size_8 : decode cX11_size 8 = .ok (.goto 4, 3) := by decide +kernel
theorem dX11_size_11 : decode cX11_size 11 = .ok (.lload_n 0, 1) := by decide +kernel
theorem dX11_size_12 : decode cX11_size 12 = .ok (.lreturn, 1) := by decide +kernel
theorem dX11_modulo_0 : decode cX11_modulo 0 = .ok (.lload_n 0, 1) := by decide +kernel
theorem dX11_modulo_1 : decode cX11_modulo 1 = .ok (.lload_n 2, 1) := by decide +kernel
theorem dX11_modulo_2 : decode cX11_modulo 2 = .ok (.lrem, 1) := by decide +kernel
theorem dX11_modulo_3 : decode cX11_modulo 3 = .ok (.lstore 4, 2) := by decide +kernel
theorem dX11_modulo_5 : decode cX11_modulo 5 = .ok (.lload 4, 2) := by decide +kernel
theorem dX11_modulo_7 : decode cX11_modulo 7 = .ok (.lconst 0, 1) := by decide +kernel
theorem dX11_modulo_8 : decode cX11_modulo 8 = .ok (.lcmp, 1) := by decide +kernel
theorem dX11_modulo_9 : decode cX11_modulo 9 = .ok (.ifCond .ge 10, 3) := by decide +kernel
theorem dX11_modulo_12 : decode cX11_modulo 12 = .ok (.lload 4, 2) := by decide +kernel
theorem dX11_modulo_14 : decode cX11_modulo 14 = .ok (.lload_n 2, 1) := by decide +kernel
theorem dX11_modulo_15 : decode cX11_modulo 15 = .ok (.ladd, 1) := by decide +kernel
theorem dX11_modulo_16 : decode cX11_modulo 16 = .ok (.goto 5, 3) := by decide +kernel
theorem dX11_modulo_19 : decode cX11_modulo 19 = .ok (.lload 4, 2) := by decide +kernel
theorem dX11_modulo_21 : decode cX11_modulo 21 = .ok (.lreturn, 1) := by decide +kernel
theorem dX11_shared_0 : decode cX11_shared 0 = .ok (.lload_n 0, 1) := by decide +kernel
theorem dX11_shared_1 : decode cX11_shared 1 = .ok (.invokestatic 84, 3) := by decide +kernel
theorem dX11_shared_4 : decode cX11_shared 4 = .ok (.lstore 4, 2) := by decide +kernel
theorem dX11_shared_6 : decode cX11_shared 6 = .ok (.lload_n 2, 1) := by decide +kernel
theorem dX11_shared_7 : decode cX11_shared 7 = .ok (.invokestatic 84, 3) := by decide +kernel
theorem dX11_shared_10 : decode cX11_shared 10 = .ok (.lstore 6, 2) := by decide +kernel
theorem dX11_shared_12 : decode cX11_shared 12 = .ok (.lload 6, 2) := by decide +kernel
theorem dX11_shared_14 : decode cX11_shared 14 = .ok (.lconst 0, 1) := by decide +kernel
theorem dX11_shared_15 : decode cX11_shared 15 = .ok (.lcmp, 1) := by decide +kernel
theorem dX11_shared_16 : decode cX11_shared 16 = .ok (.ifCond .eq 21, 3) := by decide +kernel
theorem dX11_shared_19 : decode cX11_shared 19 = .ok (.lload 4, 2) := by decide +kernel
theorem dX11_shared_21 : decode cX11_shared 21 = .ok (.lload 6, 2) := by decide +kernel
theorem dX11_shared_23 : decode cX11_shared 23 = .ok (.lrem, 1) := by decide +kernel
theorem dX11_shared_24 : decode cX11_shared 24 = .ok (.lstore 8, 2) := by decide +kernel
theorem dX11_shared_26 : decode cX11_shared 26 = .ok (.lload 6, 2) := by decide +kernel
theorem dX11_shared_28 : decode cX11_shared 28 = .ok (.lstore 4, 2) := by decide +kernel
theorem dX11_shared_30 : decode cX11_shared 30 = .ok (.lload 8, 2) := by decide +kernel
theorem dX11_shared_32 : decode cX11_shared 32 = .ok (.lstore 6, 2) := by decide +kernel
theorem dX11_shared_34 : decode cX11_shared 34 = .ok (.goto (-22), 3) := by decide +kernel
theorem dX11_shared_37 : decode cX11_shared 37 = .ok (.lload 4, 2) := by decide +kernel
theorem dX11_shared_39 : decode cX11_shared 39 = .ok (.lreturn, 1) := by decide +kernel
theorem dX11_write_0 : decode cX11_write 0 = .ok (.iload_n 1, 1) := by decide +kernel
theorem dX11_write_1 : decode cX11_write 1 = .ok (.i2l, 1) := by decide +kernel
theorem dX11_write_2 : decode cX11_write 2 = .ok (.lconst 1, 1) := by decide +kernel
theorem dX11_write_3 : decode cX11_write 3 = .ok (.ldc2_w 88, 3) := by decide +kernel
theorem dX11_write_6 : decode cX11_write 6 = .ok (.invokestatic 80, 3) := by decide +kernel
theorem dX11_write_9 : decode cX11_write 9 = .ok (.ifCond .ne 5, 3) := by decide +kernel
theorem dX11_write_12 : decode cX11_write 12 = .ok (.iconst (-1), 1) := by decide +kernel
theorem dX11_write_13 : decode cX11_write 13 = .ok (.ireturn, 1) := by decide +kernel
theorem dX11_write_14 : decode cX11_write 14 = .ok (.aload_n 0, 1) := by decide +kernel
theorem dX11_write_15 : decode cX11_write 15 = .ok (.getfield 90, 3) := by decide +kernel
theorem dX11_write_18 : decode cX11_write 18 = .ok (.iload_n 1, 1) := by decide +kernel
theorem dX11_write_19 : decode cX11_write 19 = .ok (.iadd, 1) := by decide +kernel
theorem dX11_write_20 : decode cX11_write 20 = .ok (.bipush 100, 2) := by decide +kernel
theorem dX11_write_22 : decode cX11_write 22 = .ok (.if_icmp .le 6, 3) := by decide +kernel
theorem dX11_write_25 : decode cX11_write 25 = .ok (.bipush (-3), 2) := by decide +kernel
theorem dX11_write_27 : decode cX11_write 27 = .ok (.ireturn, 1) := by decide +kernel
theorem dX11_write_28 : decode cX11_write 28 = .ok (.iload_n 1, 1) := by decide +kernel
theorem dX11_write_29 : decode cX11_write 29 = .ok (.iconst 1, 1) := by decide +kernel
theorem dX11_write_30 : decode cX11_write 30 = .ok (.isub, 1) := by decide +kernel
theorem dX11_write_31 : decode cX11_write 31 = .ok (.istore 4, 2) := by decide +kernel
theorem dX11_write_33 : decode cX11_write 33 = .ok (.iload 4, 2) := by decide +kernel
theorem dX11_write_35 : decode cX11_write 35 = .ok (.ifCond .lt 40, 3) := by decide +kernel
theorem dX11_write_38 : decode cX11_write 38 = .ok (.aload_n 0, 1) := by decide +kernel
theorem dX11_write_39 : decode cX11_write 39 = .ok (.getfield 20, 3) := by decide +kernel
theorem dX11_write_42 : decode cX11_write 42 = .ok (.aload_n 0, 1) := by decide +kernel
theorem dX11_write_43 : decode cX11_write 43 = .ok (.getfield 90, 3) := by decide +kernel
theorem dX11_write_46 : decode cX11_write 46 = .ok (.lload_n 2, 1) := by decide +kernel
theorem dX11_write_47 : decode cX11_write 47 = .ok (.bipush 8, 2) := by decide +kernel
theorem dX11_write_49 : decode cX11_write 49 = .ok (.iload 4, 2) := by decide +kernel
theorem dX11_write_51 : decode cX11_write 51 = .ok (.imul, 1) := by decide +kernel
theorem dX11_write_52 : decode cX11_write 52 = .ok (.lshr, 1) := by decide +kernel
theorem dX11_write_53 : decode cX11_write 53 = .ok (.ldc2_w 93, 3) := by decide +kernel
theorem dX11_write_56 : decode cX11_write 56 = .ok (.land, 1) := by decide +kernel
theorem dX11_write_57 : decode cX11_write 57 = .ok (.l2i, 1) := by decide +kernel
theorem dX11_write_58 : decode cX11_write 58 = .ok (.iastore, 1) := by decide +kernel
theorem dX11_write_59 : decode cX11_write 59 = .ok (.aload_n 0, 1) := by decide +kernel
theorem dX11_write_60 : decode cX11_write 60 = .ok (.dup, 1) := by decide +kernel
theorem dX11_write_61 : decode cX11_write 61 = .ok (.getfield 90, 3) := by decide +kernel
theorem dX11_write_64 : decode cX11_write 64 = .ok (.iconst 1, 1) := by decide +kernel
theorem dX11_write_65 : decode cX11_write 65 = .ok (.iadd, 1) := by decide +kernel
theorem dX11_write_66 : decode cX11_write 66 = .ok (.putfield 90, 3) := by decide +kernel
theorem dX11_write_69 : decode cX11_write 69 = .ok (.iinc 4 (-1), 3) := by decide +kernel
theorem dX11_write_72 : decode cX11_write 72 = .ok (.goto (-39), 3) := by decide +kernel
theorem dX11_write_75 : decode cX11_write 75 = .ok (.aload_n 0, 1) := by decide +kernel
theorem dX11_write_76 : decode cX11_write 76 = .ok (.getfield 90, 3) := by decide +kernel
theorem dX11_write_79 : decode cX11_write 79 = .ok (.ireturn, 1) := by decide +kernel
theorem dX11_wipe_0 : decode cX11_wipe 0 = .ok (.aload_n 0, 1) := by decide +kernel
theorem dX11_wipe_1 : decode cX11_wipe 1 = .ok (.getfield 90, 3) := by decide +kernel
theorem dX11_wipe_4 : decode cX11_wipe 4 = .ok (.istore_n 1, 1) := by decide +kernel
theorem dX11_wipe_5 : decode cX11_wipe 5 = .ok (.aload_n 0, 1) := by decide +kernel
theorem dX11_wipe_6 : decode cX11_wipe 6 = .ok (.iconst 0, 1) := by decide +kernel
theorem dX11_wipe_7 : decode cX11_wipe 7 = .ok (.putfield 90, 3) := by decide +kernel
theorem dX11_wipe_10 : decode cX11_wipe 10 = .ok (.iload_n 1, 1) := by decide +kernel
theorem dX11_wipe_11 : decode cX11_wipe 11 = .ok (.ireturn, 1) := by decide +kernel
theorem dX11_isFigure_0 : decode cX11_isFigure 0 = .ok (.iload_n 1, 1) := by decide +kernel
theorem dX11_isFigure_1 : decode cX11_isFigure 1 = .ok (.aload_n 0, 1) := by decide +kernel
theorem dX11_isFigure_2 : decode cX11_isFigure 2 = .ok (.getfield 90, 3) := by decide +kernel
theorem dX11_isFigure_5 : decode cX11_isFigure 5 = .ok (.if_icmp .ge 26, 3) := by decide +kernel
theorem dX11_isFigure_8 : decode cX11_isFigure 8 = .ok (.aload_n 0, 1) := by decide +kernel
theorem dX11_isFigure_9 : decode cX11_isFigure 9 = .ok (.getfield 20, 3) := by decide +kernel
theorem dX11_isFigure_12 : decode cX11_isFigure 12 = .ok (.iload_n 1, 1) := by decide +kernel
theorem dX11_isFigure_13 : decode cX11_isFigure 13 = .ok (.iaload, 1) := by decide +kernel
theorem dX11_isFigure_14 : decode cX11_isFigure 14 = .ok (.i2l, 1) := by decide +kernel
theorem dX11_isFigure_15 : decode cX11_isFigure 15 = .ok (.ldc2_w 95, 3) := by decide +kernel
theorem dX11_isFigure_18 : decode cX11_isFigure 18 = .ok (.ldc2_w 97, 3) := by decide +kernel
theorem dX11_isFigure_21 : decode cX11_isFigure 21 = .ok (.invokestatic 80, 3) := by decide +kernel
theorem dX11_isFigure_24 : decode cX11_isFigure 24 = .ok (.ifCond .eq 7, 3) := by decide +kernel
theorem dX11_isFigure_27 : decode cX11_isFigure 27 = .ok (.iconst 1, 1) := by decide +kernel
theorem dX11_isFigure_28 : decode cX11_isFigure 28 = .ok (.goto 4, 3) := by decide +kernel
theorem dX11_isFigure_31 : decode cX11_isFigure 31 = .ok (.iconst 0, 1) := by decide +kernel
theorem dX11_isFigure_32 : decode cX11_isFigure 32 = .ok (.ireturn, 1) := by decide +kernel
theorem dX11_number_0 : decode cX11_number 0 = .ok (.aload_n 0, 1) := by decide +kernel
theorem dX11_number_1 : decode cX11_number 1 = .ok (.getfield 99, 3) := by decide +kernel
theorem dX11_number_4 : decode cX11_number 4 = .ok (.istore_n 3, 1) := by decide +kernel
theorem dX11_number_5 : decode cX11_number 5 = .ok (.aload_n 0, 1) := by decide +kernel
theorem dX11_number_6 : decode cX11_number 6 = .ok (.getfield 99, 3) := by decide +kernel
theorem dX11_number_9 : decode cX11_number 9 = .ok (.aload_n 0, 1) := by decide +kernel
theorem dX11_number_10 : decode cX11_number 10 = .ok (.getfield 90, 3) := by decide +kernel
theorem dX11_number_13 : decode cX11_number 13 = .ok (.if_icmp .ge 21, 3) := by decide +kernel
theorem dX11_number_16 : decode cX11_number 16 = .ok (.aload_n 0, 1) := by decide +kernel
theorem dX11_number_17 : decode cX11_number 17 = .ok (.getfield 20, 3) := by decide +kernel
theorem dX11_number_20 : decode cX11_number 20 = .ok (.aload_n 0, 1) := by decide +kernel
theorem dX11_number_21 : decode cX11_number 21 = .ok (.getfield 99, 3) := by decide +kernel
theorem dX11_number_24 : decode cX11_number 24 = .ok (.iaload, 1) := by decide +kernel
theorem dX11_number_25 : decode cX11_number 25 = .ok (.bipush 45, 2) := by decide +kernel
theorem dX11_number_27 : decode cX11_number 27 = .ok (.if_icmp .ne 7, 3) := by decide +kernel
theorem dX11_number_30 : decode cX11_number 30 = .ok (.iconst 1, 1) := by decide +kernel
theorem dX11_number_31 : decode cX11_number 31 = .ok (.goto 4, 3) := by decide +kernel
theorem dX11_number_34 : decode cX11_number 34 = .ok (.iconst 0, 1) := by decide +kernel
theorem dX11_number_35 : decode cX11_number 35 = .ok (.istore 4, 2) := by decide +kernel
theorem dX11_number_37 : decode cX11_number 37 = .ok (.aload_n 0, 1) := by decide +kernel
theorem dX11_number_38 : decode cX11_number 38 = .ok (.dup, 1) := by decide +kernel
theorem dX11_number_39 : decode cX11_number 39 = .ok (.getfield 99, 3) := by decide +kernel
theorem dX11_number_42 : decode cX11_number 42 = .ok (.iload 4, 2) := by decide +kernel
theorem dX11_number_44 : decode cX11_number 44 = .ok (.ifCond .eq 7, 3) := by decide +kernel
theorem dX11_number_47 : decode cX11_number 47 = .ok (.iconst 1, 1) := by decide +kernel
theorem dX11_number_48 : decode cX11_number 48 = .ok (.goto 4, 3) := by decide +kernel
theorem dX11_number_51 : decode cX11_number 51 = .ok (.iconst 0, 1) := by decide +kernel
theorem dX11_number_52 : decode cX11_number 52 = .ok (.iadd, 1) := by decide +kernel
theorem dX11_number_53 : decode cX11_number 53 = .ok (.putfield 99, 3) := by decide +kernel
theorem dX11_number_56 : decode cX11_number 56 = .ok (.aload_n 0, 1) := by decide +kernel
theorem dX11_number_57 : decode cX11_number 57 = .ok (.aload_n 0, 1) := by decide +kernel
theorem dX11_number_58 : decode cX11_number 58 = .ok (.getfield 99, 3) := by decide +kernel
theorem dX11_number_61 : decode cX11_number 61 = .ok (.invokevirtual 102, 3) := by decide +kernel
theorem dX11_number_64 : decode cX11_number 64 = .ok (.ifCond .eq 22, 3) := by decide +kernel
theorem dX11_number_67 : decode cX11_number 67 = .ok (.iload 4, 2) := by decide +kernel
theorem dX11_number_69 : decode cX11_number 69 = .ok (.ifCond .eq 27, 3) := by decide +kernel
theorem dX11_number_72 : decode cX11_number 72 = .ok (.aload_n 0, 1) := by decide +kernel
theorem dX11_number_73 : decode cX11_number 73 = .ok (.getfield 20, 3) := by decide +kernel
theorem dX11_number_76 : decode cX11_number 76 = .ok (.aload_n 0, 1) := by decide +kernel
theorem dX11_number_77 : decode cX11_number 77 = .ok (.getfield 99, 3) := by decide +kernel
theorem dX11_number_80 : decode cX11_number 80 = .ok (.iaload, 1) := by decide +kernel
theorem dX11_number_81 : decode cX11_number 81 = .ok (.bipush 48, 2) := by decide +kernel
theorem dX11_number_83 : decode cX11_number 83 = .ok (.if_icmp .ne 13, 3) := by decide +kernel
theorem dX11_number_86 : decode cX11_number 86 = .ok (.aload_n 0, 1) := by decide +kernel
theorem dX11_number_87 : decode cX11_number 87 = .ok (.aload_n 0, 1) := by decide +kernel
theorem dX11_number_88 : decode cX11_number 88 = .ok (.getfield 99, 3) := by decide +kernel
theorem dX11_number_91 : decode cX11_number 91 = .ok (.putfield 106, 3) := by decide +kernel
theorem dX11_number_94 : decode cX11_number 94 = .ok (.iconst 0, 1) := by decide +kernel
theorem dX11_number_95 : decode cX11_number 95 = .ok (.ireturn, 1) := by decide +kernel
theorem dX11_number_96 : decode cX11_number 96 = .ok (.aload_n 0, 1) := by decide +kernel
theorem dX11_number_97 : decode cX11_number 97 = .ok (.lconst 0, 1) := by decide +kernel
theorem dX11_number_98 : decode cX11_number 98 = .ok (.putfield 109, 3) := by decide +kernel
theorem dX11_number_101 : decode cX11_number 101 = .ok (.aload_n 0, 1) := by decide +kernel
theorem dX11_number_102 : decode cX11_number 102 = .ok (.getfield 20, 3) := by decide +kernel
theorem dX11_number_105 : decode cX11_number 105 = .ok (.aload_n 0, 1) := by decide +kernel
theorem dX11_number_106 : decode cX11_number 106 = .ok (.getfield 99, 3) := by decide +kernel
theorem dX11_number_109 : decode cX11_number 109 = .ok (.iaload, 1) := by decide +kernel
theorem dX11_number_110 : decode cX11_number 110 = .ok (.bipush 48, 2) := by decide +kernel
theorem dX11_number_112 : decode cX11_number 112 = .ok (.if_icmp .ne 7, 3) := by decide +kernel
theorem dX11_number_115 : decode cX11_number 115 = .ok (.iconst 1, 1) := by decide +kernel
theorem dX11_number_116 : decode cX11_number 116 = .ok (.goto 4, 3) := by decide +kernel
theorem dX11_number_119 : decode cX11_number 119 = .ok (.iconst 0, 1) := by decide +kernel
theorem dX11_number_120 : decode cX11_number 120 = .ok (.istore 5, 2) := by decide +kernel
theorem dX11_number_122 : decode cX11_number 122 = .ok (.aload_n 0, 1) := by decide +kernel
theorem dX11_number_123 : decode cX11_number 123 = .ok (.aload_n 0, 1) := by decide +kernel
theorem dX11_number_124 : decode cX11_number 124 = .ok (.getfield 99, 3) := by decide +kernel
theorem dX11_number_127 : decode cX11_number 127 = .ok (.invokevirtual 102, 3) := by decide +kernel
theorem dX11_number_130 : decode cX11_number 130 = .ok (.ifCond .eq 72, 3) := by decide +kernel
theorem dX11_number_133 : decode cX11_number 133 = .ok (.iload 5, 2) := by decide +kernel
theorem dX11_number_135 : decode cX11_number 135 = .ok (.ifCond .eq 11, 3) := by decide +kernel
theorem dX11_number_138 : decode cX11_number 138 = .ok (.aload_n 0, 1) := by decide +kernel
theorem dX11_number_139 : decode cX11_number 139 = .ok (.getfield 99, 3) := by decide +kernel
theorem dX11_number_142 : decode cX11_number 142 = .ok (.iload_n 3, 1) := by decide +kernel
theorem dX11_number_143 : decode cX11_number 143 = .ok (.if_icmp .ne 59, 3) := by decide +kernel
theorem dX11_number_146 : decode cX11_number 146 = .ok (.aload_n 0, 1) := by decide +kernel
theorem dX11_number_147 : decode cX11_number 147 = .ok (.aload_n 0, 1) := by decide +kernel
theorem dX11_number_148 : decode cX11_number 148 = .ok (.getfield 109, 3) := by decide +kernel
theorem dX11_number_151 : decode cX11_number 151 = .ok (.lload_n 1, 1) := by decide +kernel
theorem dX11_number_152 : decode cX11_number 152 = .ok (.lcmp, 1) := by decide +kernel
theorem dX11_number_153 : decode cX11_number 153 = .ok (.ifCond .le 10, 3) := by decide +kernel
theorem dX11_number_156 : decode cX11_number 156 = .ok (.aload_n 0, 1) := by decide +kernel
theorem dX11_number_157 : decode cX11_number 157 = .ok (.getfield 109, 3) := by decide +kernel
theorem dX11_number_160 : decode cX11_number 160 = .ok (.goto 26, 3) := by decide +kernel
theorem dX11_number_163 : decode cX11_number 163 = .ok (.ldc2_w 113, 3) := by decide +kernel
theorem dX11_number_166 : decode cX11_number 166 = .ok (.aload_n 0, 1) := by decide +kernel
theorem dX11_number_167 : decode cX11_number 167 = .ok (.getfield 109, 3) := by decide +kernel
theorem dX11_number_170 : decode cX11_number 170 = .ok (.lmul, 1) := by decide +kernel
theorem dX11_number_171 : decode cX11_number 171 = .ok (.aload_n 0, 1) := by decide +kernel
theorem dX11_number_172 : decode cX11_number 172 = .ok (.getfield 20, 3) := by decide +kernel
theorem dX11_number_175 : decode cX11_number 175 = .ok (.aload_n 0, 1) := by decide +kernel
theorem dX11_number_176 : decode cX11_number 176 = .ok (.getfield 99, 3) := by decide +kernel
theorem dX11_number_179 : decode cX11_number 179 = .ok (.iaload, 1) := by decide +kernel
theorem dX11_number_180 : decode cX11_number 180 = .ok (.i2l, 1) := by decide +kernel
theorem dX11_number_181 : decode cX11_number 181 = .ok (.ladd, 1) := by decide +kernel
theorem dX11_number_182 : decode cX11_number 182 = .ok (.ldc2_w 95, 3) := by decide +kernel
theorem dX11_number_185 : decode cX11_number 185 = .ok (.lsub, 1) := by decide +kernel
theorem dX11_number_186 : decode cX11_number 186 = .ok (.putfield 109, 3) := by decide +kernel
theorem dX11_number_189 : decode cX11_number 189 = .ok (.aload_n 0, 1) := by decide +kernel
theorem dX11_number_190 : decode cX11_number 190 = .ok (.dup, 1) := by decide +kernel
theorem dX11_number_191 : decode cX11_number 191 = .ok (.getfield 99, 3) := by decide +kernel
theorem dX11_number_194 : decode cX11_number 194 = .ok (.iconst 1, 1) := by decide +kernel
theorem dX11_number_195 : decode cX11_number 195 = .ok (.iadd, 1) := by decide +kernel
theorem dX11_number_196 : decode cX11_number 196 = .ok (.putfield 99, 3) := by decide +kernel
theorem dX11_number_199 : decode cX11_number 199 = .ok (.goto (-77), 3) := by decide +kernel
theorem dX11_number_202 : decode cX11_number 202 = .ok (.aload_n 0, 1) := by decide +kernel
theorem dX11_number_203 : decode cX11_number 203 = .ok (.getfield 109, 3) := by decide +kernel
theorem dX11_number_206 : decode cX11_number 206 = .ok (.lload_n 1, 1) := by decide +kernel
theorem dX11_number_207 : decode cX11_number 207 = .ok (.lcmp, 1) := by decide +kernel
theorem dX11_number_208 : decode cX11_number 208 = .ok (.ifCond .le 10, 3) := by decide +kernel
theorem dX11_number_211 : decode cX11_number 211 = .ok (.aload_n 0, 1) := by decide +kernel
theorem dX11_number_212 : decode cX11_number 212 = .ok (.iload_n 3, 1) := by decide +kernel
theorem dX11_number_213 : decode cX11_number 213 = .ok (.putfield 106, 3) := by decide +kernel
theorem dX11_number_216 : decode cX11_number 216 = .ok (.iconst 0, 1) := by decide +kernel
theorem dX11_number_217 : decode cX11_number 217 = .ok (.ireturn, 1) := by decide +kernel
theorem dX11_number_218 : decode cX11_number 218 = .ok (.aload_n 0, 1) := by decide +kernel
theorem dX11_number_219 : decode cX11_number 219 = .ok (.iload 4, 2) := by decide +kernel
theorem dX11_number_221 : decode cX11_number 221 = .ok (.ifCond .eq 11, 3) := by decide +kernel
theorem dX11_number_224 : decode cX11_number 224 = .ok (.aload_n 0, 1) := by decide +kernel
theorem dX11_number_225 : decode cX11_number 225 = .ok (.getfield 109, 3) := by decide +kernel
theorem dX11_number_228 : decode cX11_number 228 = .ok (.lneg, 1) := by decide +kernel
theorem dX11_number_229 : decode cX11_number 229 = .ok (.goto 7, 3) := by decide +kernel
theorem dX11_number_232 : decode cX11_number 232 = .ok (.aload_n 0, 1) := by decide +kernel
theorem dX11_number_233 : decode cX11_number 233 = .ok (.getfield 109, 3) := by decide +kernel
theorem dX11_number_236 : decode cX11_number 236 = .ok (.putfield 109, 3) := by decide +kernel
theorem dX11_number_239 : decode cX11_number 239 = .ok (.iconst 1, 1) := by decide +kernel
theorem dX11_number_240 : decode cX11_number 240 = .ok (.ireturn, 1) := by decide +kernel
theorem dX11_readAll_0 : decode cX11_readAll 0 = .ok (.aload_n 0, 1) := by decide +kernel
theorem dX11_readAll_1 : decode cX11_readAll 1 = .ok (.iconst 0, 1) := by decide +kernel
theorem dX11_readAll_2 : decode cX11_readAll 2 = .ok (.putfield 99, 3) := by decide +kernel
theorem dX11_readAll_5 : decode cX11_readAll 5 = .ok (.iconst 0, 1) := by decide +kernel
theorem dX11_readAll_6 : decode cX11_readAll 6 = .ok (.istore_n 1, 1) := by decide +kernel
theorem dX11_readAll_7 : decode cX11_readAll 7 = .ok (.iconst 1, 1) := by decide +kernel
theorem dX11_readAll_8 : decode cX11_readAll 8 = .ok (.istore_n 2, 1) := by decide +kernel
theorem dX11_readAll_9 : decode cX11_readAll 9 = .ok (.iload_n 2, 1) := by decide +kernel
theorem dX11_readAll_10 : decode cX11_readAll 10 = .ok (.ifCond .eq 141, 3) := by decide +kernel
theorem dX11_readAll_13 : decode cX11_readAll 13 = .ok (.aload_n 0, 1) := by decide +kernel
theorem dX11_readAll_14 : decode cX11_readAll 14 = .ok (.ldc2_w 115, 3) := by decide +kernel
theorem dX11_readAll_17 : decode cX11_readAll 17 = .ok (.invokevirtual 117, 3) := by decide +kernel
theorem dX11_readAll_20 : decode cX11_readAll 20 = .ok (.ifCond .ne 8, 3) := by decide +kernel
theorem dX11_readAll_23 : decode cX11_readAll 23 = .ok (.aload_n 0, 1) := by decide +kernel
theorem dX11_readAll_24 : decode cX11_readAll 24 = .ok (.getfield 106, 3) := by decide +kernel
theorem dX11_readAll_27 : decode cX11_readAll 27 = .ok (.ireturn, 1) := by decide +kernel
theorem dX11_readAll_28 : decode cX11_readAll 28 = .ok (.aload_n 0, 1) := by decide +kernel
theorem dX11_readAll_29 : decode cX11_readAll 29 = .ok (.getfield 13, 3) := by decide +kernel
theorem dX11_readAll_32 : decode cX11_readAll 32 = .ok (.bipush 36, 2) := by decide +kernel
theorem dX11_readAll_34 : decode cX11_readAll 34 = .ok (.iload_n 1, 1) := by decide +kernel
theorem dX11_readAll_35 : decode cX11_readAll 35 = .ok (.iadd, 1) := by decide +kernel
theorem dX11_readAll_36 : decode cX11_readAll 36 = .ok (.aload_n 0, 1) := by decide +kernel
theorem dX11_readAll_37 : decode cX11_readAll 37 = .ok (.getfield 109, 3) := by decide +kernel
theorem dX11_readAll_40 : decode cX11_readAll 40 = .ok (.lastore, 1) := by decide +kernel
theorem dX11_readAll_41 : decode cX11_readAll 41 = .ok (.iinc 1 1, 3) := by decide +kernel
theorem dX11_readAll_44 : decode cX11_readAll 44 = .ok (.aload_n 0, 1) := by decide +kernel
theorem dX11_readAll_45 : decode cX11_readAll 45 = .ok (.getfield 99, 3) := by decide +kernel
theorem dX11_readAll_48 : decode cX11_readAll 48 = .ok (.aload_n 0, 1) := by decide +kernel
theorem dX11_readAll_49 : decode cX11_readAll 49 = .ok (.getfield 90, 3) := by decide +kernel
theorem dX11_readAll_52 : decode cX11_readAll 52 = .ok (.if_icmp .ge 27, 3) := by decide +kernel
theorem dX11_readAll_55 : decode cX11_readAll 55 = .ok (.aload_n 0, 1) := by decide +kernel
theorem dX11_readAll_56 : decode cX11_readAll 56 = .ok (.getfield 20, 3) := by decide +kernel
theorem dX11_readAll_59 : decode cX11_readAll 59 = .ok (.aload_n 0, 1) := by decide +kernel
theorem dX11_readAll_60 : decode cX11_readAll 60 = .ok (.getfield 99, 3) := by decide +kernel
theorem dX11_readAll_63 : decode cX11_readAll 63 = .ok (.iaload, 1) := by decide +kernel
theorem dX11_readAll_64 : decode cX11_readAll 64 = .ok (.bipush 44, 2) := by decide +kernel
theorem dX11_readAll_66 : decode cX11_readAll 66 = .ok (.if_icmp .ne 13, 3) := by decide +kernel
theorem dX11_readAll_69 : decode cX11_readAll 69 = .ok (.iload_n 1, 1) := by decide +kernel
theorem dX11_readAll_70 : decode cX11_readAll 70 = .ok (.bipush 6, 2) := by decide +kernel
theorem dX11_readAll_72 : decode cX11_readAll 72 = .ok (.if_icmp .ge 7, 3) := by decide +kernel
theorem dX11_readAll_75 : decode cX11_readAll 75 = .ok (.iconst 1, 1) := by decide +kernel
theorem dX11_readAll_76 : decode cX11_readAll 76 = .ok (.goto 4, 3) := by decide +kernel
theorem dX11_readAll_79 : decode cX11_readAll 79 = .ok (.iconst 0, 1) := by decide +kernel
theorem dX11_readAll_80 : decode cX11_readAll 80 = .ok (.istore_n 3, 1) := by decide +kernel
theorem dX11_readAll_81 : decode cX11_readAll 81 = .ok (.aload_n 0, 1) := by decide +kernel
theorem dX11_readAll_82 : decode cX11_readAll 82 = .ok (.getfield 99, 3) := by decide +kernel
theorem dX11_readAll_85 : decode cX11_readAll 85 = .ok (.aload_n 0, 1) := by decide +kernel
theorem dX11_readAll_86 : decode cX11_readAll 86 = .ok (.getfield 90, 3) := by decide +kernel
theorem dX11_readAll_89 : decode cX11_readAll 89 = .ok (.if_icmp .ge 30, 3) := by decide +kernel
theorem dX11_readAll_92 : decode cX11_readAll 92 = .ok (.aload_n 0, 1) := by decide +kernel
theorem dX11_readAll_93 : decode cX11_readAll 93 = .ok (.getfield 20, 3) := by decide +kernel
theorem dX11_readAll_96 : decode cX11_readAll 96 = .ok (.aload_n 0, 1) := by decide +kernel
theorem dX11_readAll_97 : decode cX11_readAll 97 = .ok (.getfield 99, 3) := by decide +kernel
theorem dX11_readAll_100 : decode cX11_readAll 100 = .ok (.iaload, 1) := by decide +kernel
theorem dX11_readAll_101 : decode cX11_readAll 101 = .ok (.bipush 58, 2) := by decide +kernel
theorem dX11_readAll_103 : decode cX11_readAll 103 = .ok (.if_icmp .ne 16, 3) := by decide +kernel
theorem dX11_readAll_106 : decode cX11_readAll 106 = .ok (.aload_n 0, 1) := by decide +kernel
theorem dX11_readAll_107 : decode cX11_readAll 107 = .ok (.getfield 109, 3) := by decide +kernel
theorem dX11_readAll_110 : decode cX11_readAll 110 = .ok (.lconst 0, 1) := by decide +kernel
theorem dX11_readAll_111 : decode cX11_readAll 111 = .ok (.lcmp, 1) := by decide +kernel
theorem dX11_readAll_112 : decode cX11_readAll 112 = .ok (.ifCond .eq 7, 3) := by decide +kernel
theorem dX11_readAll_115 : decode cX11_readAll 115 = .ok (.iconst 1, 1) := by decide +kernel
theorem dX11_readAll_116 : decode cX11_readAll 116 = .ok (.goto 4, 3) := by decide +kernel
theorem dX11_readAll_119 : decode cX11_readAll 119 = .ok (.iconst 0, 1) := by decide +kernel
theorem dX11_readAll_120 : decode cX11_readAll 120 = .ok (.istore 4, 2) := by decide +kernel
theorem dX11_readAll_122 : decode cX11_readAll 122 = .ok (.iload_n 3, 1) := by decide +kernel
theorem dX11_readAll_123 : decode cX11_readAll 123 = .ok (.ifCond .ne 13, 3) := by decide +kernel
theorem dX11_readAll_126 : decode cX11_readAll 126 = .ok (.iload 4, 2) := by decide +kernel
theorem dX11_readAll_128 : decode cX11_readAll 128 = .ok (.ifCond .ne 8, 3) := by decide +kernel
theorem dX11_readAll_131 : decode cX11_readAll 131 = .ok (.aload_n 0, 1) := by decide +kernel
theorem dX11_readAll_132 : decode cX11_readAll 132 = .ok (.getfield 99, 3) := by decide +kernel
theorem dX11_readAll_135 : decode cX11_readAll 135 = .ok (.ireturn, 1) := by decide +kernel
theorem dX11_readAll_136 : decode cX11_readAll 136 = .ok (.aload_n 0, 1) := by decide +kernel
theorem dX11_readAll_137 : decode cX11_readAll 137 = .ok (.dup, 1) := by decide +kernel
theorem dX11_readAll_138 : decode cX11_readAll 138 = .ok (.getfield 99, 3) := by decide +kernel
theorem dX11_readAll_141 : decode cX11_readAll 141 = .ok (.iconst 1, 1) := by decide +kernel
theorem dX11_readAll_142 : decode cX11_readAll 142 = .ok (.iadd, 1) := by decide +kernel
theorem dX11_readAll_143 : decode cX11_readAll 143 = .ok (.putfield 99, 3) := by decide +kernel
theorem dX11_readAll_146 : decode cX11_readAll 146 = .ok (.iload_n 3, 1) := by decide +kernel
theorem dX11_readAll_147 : decode cX11_readAll 147 = .ok (.istore_n 2, 1) := by decide +kernel
theorem dX11_readAll_148 : decode cX11_readAll 148 = .ok (.goto (-139), 3) := by decide +kernel
theorem dX11_readAll_151 : decode cX11_readAll 151 = .ok (.aload_n 0, 1) := by decide +kernel
theorem dX11_readAll_152 : decode cX11_readAll 152 = .ok (.getfield 7, 3) := by decide +kernel
theorem dX11_readAll_155 : decode cX11_readAll 155 = .ok (.bipush 6, 2) := by decide +kernel
theorem dX11_readAll_157 : decode cX11_readAll 157 = .ok (.iload_n 1, 1) := by decide +kernel
theorem dX11_readAll_158 : decode cX11_readAll 158 = .ok (.iastore, 1) := by decide +kernel
theorem dX11_readAll_159 : decode cX11_readAll 159 = .ok (.iconst 0, 1) := by decide +kernel
theorem dX11_readAll_160 : decode cX11_readAll 160 = .ok (.istore_n 3, 1) := by decide +kernel
theorem dX11_readAll_161 : decode cX11_readAll 161 = .ok (.iload_n 3, 1) := by decide +kernel
theorem dX11_readAll_162 : decode cX11_readAll 162 = .ok (.iload_n 1, 1) := by decide +kernel
theorem dX11_readAll_163 : decode cX11_readAll 163 = .ok (.if_icmp .ge 119, 3) := by decide +kernel
theorem dX11_readAll_166 : decode cX11_readAll 166 = .ok (.aload_n 0, 1) := by decide +kernel
theorem dX11_readAll_167 : decode cX11_readAll 167 = .ok (.ldc2_w 121, 3) := by decide +kernel
theorem dX11_readAll_170 : decode cX11_readAll 170 = .ok (.invokevirtual 117, 3) := by decide +kernel
theorem dX11_readAll_173 : decode cX11_readAll 173 = .ok (.ifCond .ne 8, 3) := by decide +kernel
theorem dX11_readAll_176 : decode cX11_readAll 176 = .ok (.aload_n 0, 1) := by decide +kernel
theorem dX11_readAll_177 : decode cX11_readAll 177 = .ok (.getfield 106, 3) := by decide +kernel
theorem dX11_readAll_180 : decode cX11_readAll 180 = .ok (.ireturn, 1) := by decide +kernel
theorem dX11_readAll_181 : decode cX11_readAll 181 = .ok (.aload_n 0, 1) := by decide +kernel
theorem dX11_readAll_182 : decode cX11_readAll 182 = .ok (.getfield 17, 3) := by decide +kernel
theorem dX11_readAll_185 : decode cX11_readAll 185 = .ok (.bipush 36, 2) := by decide +kernel
theorem dX11_readAll_187 : decode cX11_readAll 187 = .ok (.iload_n 3, 1) := by decide +kernel
theorem dX11_readAll_188 : decode cX11_readAll 188 = .ok (.iadd, 1) := by decide +kernel
theorem dX11_readAll_189 : decode cX11_readAll 189 = .ok (.aload_n 0, 1) := by decide +kernel
theorem dX11_readAll_190 : decode cX11_readAll 190 = .ok (.getfield 109, 3) := by decide +kernel
theorem dX11_readAll_193 : decode cX11_readAll 193 = .ok (.lastore, 1) := by decide +kernel
theorem dX11_readAll_194 : decode cX11_readAll 194 = .ok (.iload_n 3, 1) := by decide +kernel
theorem dX11_readAll_195 : decode cX11_readAll 195 = .ok (.iload_n 1, 1) := by decide +kernel
theorem dX11_readAll_196 : decode cX11_readAll 196 = .ok (.iconst 1, 1) := by decide +kernel
theorem dX11_readAll_197 : decode cX11_readAll 197 = .ok (.isub, 1) := by decide +kernel
theorem dX11_readAll_198 : decode cX11_readAll 198 = .ok (.if_icmp .ne 7, 3) := by decide +kernel
theorem dX11_readAll_201 : decode cX11_readAll 201 = .ok (.iconst 1, 1) := by decide +kernel
theorem dX11_readAll_202 : decode cX11_readAll 202 = .ok (.goto 4, 3) := by decide +kernel
theorem dX11_readAll_205 : decode cX11_readAll 205 = .ok (.iconst 0, 1) := by decide +kernel
theorem dX11_readAll_206 : decode cX11_readAll 206 = .ok (.istore 4, 2) := by decide +kernel
theorem dX11_readAll_208 : decode cX11_readAll 208 = .ok (.iload 4, 2) := by decide +kernel
theorem dX11_readAll_210 : decode cX11_readAll 210 = .ok (.ifCond .eq 17, 3) := by decide +kernel
theorem dX11_readAll_213 : decode cX11_readAll 213 = .ok (.aload_n 0, 1) := by decide +kernel
theorem dX11_readAll_214 : decode cX11_readAll 214 = .ok (.getfield 99, 3) := by decide +kernel
theorem dX11_readAll_217 : decode cX11_readAll 217 = .ok (.aload_n 0, 1) := by decide +kernel
theorem dX11_readAll_218 : decode cX11_readAll 218 = .ok (.getfield 90, 3) := by decide +kernel
theorem dX11_readAll_221 : decode cX11_readAll 221 = .ok (.if_icmp .ge 36, 3) := by decide +kernel
theorem dX11_readAll_224 : decode cX11_readAll 224 = .ok (.goto 28, 3) := by decide +kernel
theorem dX11_readAll_227 : decode cX11_readAll 227 = .ok (.aload_n 0, 1) := by decide +kernel
theorem dX11_readAll_228 : decode cX11_readAll 228 = .ok (.getfield 99, 3) := by decide +kernel
theorem dX11_readAll_231 : decode cX11_readAll 231 = .ok (.aload_n 0, 1) := by decide +kernel
theorem dX11_readAll_232 : decode cX11_readAll 232 = .ok (.getfield 90, 3) := by decide +kernel
theorem dX11_readAll_235 : decode cX11_readAll 235 = .ok (.if_icmp .eq 17, 3) := by decide +kernel
theorem dX11_readAll_238 : decode cX11_readAll 238 = .ok (.aload_n 0, 1) := by decide +kernel
theorem dX11_readAll_239 : decode cX11_readAll 239 = .ok (.getfield 20, 3) := by decide +kernel
theorem dX11_readAll_242 : decode cX11_readAll 242 = .ok (.aload_n 0, 1) := by decide +kernel
theorem dX11_readAll_243 : decode cX11_readAll 243 = .ok (.getfield 99, 3) := by decide +kernel
theorem dX11_readAll_246 : decode cX11_readAll 246 = .ok (.iaload, 1) := by decide +kernel
theorem dX11_readAll_247 : decode cX11_readAll 247 = .ok (.bipush 44, 2) := by decide +kernel
theorem dX11_readAll_249 : decode cX11_readAll 249 = .ok (.if_icmp .eq 8, 3) := by decide +kernel
theorem dX11_readAll_252 : decode cX11_readAll 252 = .ok (.aload_n 0, 1) := by decide +kernel
theorem dX11_readAll_253 : decode cX11_readAll 253 = .ok (.getfield 99, 3) := by decide +kernel
theorem dX11_readAll_256 : decode cX11_readAll 256 = .ok (.ireturn, 1) := by decide +kernel
theorem dX11_readAll_257 : decode cX11_readAll 257 = .ok (.aload_n 0, 1) := by decide +kernel
theorem dX11_readAll_258 : decode cX11_readAll 258 = .ok (.dup, 1) := by decide +kernel
theorem dX11_readAll_259 : decode cX11_readAll 259 = .ok (.getfield 99, 3) := by decide +kernel
theorem dX11_readAll_262 : decode cX11_readAll 262 = .ok (.iload 4, 2) := by decide +kernel
theorem dX11_readAll_264 : decode cX11_readAll 264 = .ok (.ifCond .eq 7, 3) := by decide +kernel
theorem dX11_readAll_267 : decode cX11_readAll 267 = .ok (.iconst 0, 1) := by decide +kernel
theorem dX11_readAll_268 : decode cX11_readAll 268 = .ok (.goto 4, 3) := by decide +kernel
theorem dX11_readAll_271 : decode cX11_readAll 271 = .ok (.iconst 1, 1) := by decide +kernel
theorem dX11_readAll_272 : decode cX11_readAll 272 = .ok (.iadd, 1) := by decide +kernel
theorem dX11_readAll_273 : decode cX11_readAll 273 = .ok (.putfield 99, 3) := by decide +kernel
theorem dX11_readAll_276 : decode cX11_readAll 276 = .ok (.iinc 3 1, 3) := by decide +kernel
theorem dX11_readAll_279 : decode cX11_readAll 279 = .ok (.goto (-118), 3) := by decide +kernel
theorem dX11_readAll_282 : decode cX11_readAll 282 = .ok (.bipush (-4), 2) := by decide +kernel
theorem dX11_readAll_284 : decode cX11_readAll 284 = .ok (.ireturn, 1) := by decide +kernel
theorem dX11_fault_0 : decode cX11_fault 0 = .ok (.aload_n 0, 1) := by decide +kernel
theorem dX11_fault_1 : decode cX11_fault 1 = .ok (.invokevirtual 123, 3) := by decide +kernel
theorem dX11_fault_4 : decode cX11_fault 4 = .ok (.ireturn, 1) := by decide +kernel
theorem dX11_keep_0 : decode cX11_keep 0 = .ok (.aload_n 0, 1) := by decide +kernel
theorem dX11_keep_1 : decode cX11_keep 1 = .ok (.getfield 7, 3) := by decide +kernel
theorem dX11_keep_4 : decode cX11_keep 4 = .ok (.iload_n 1, 1) := by decide +kernel
theorem dX11_keep_5 : decode cX11_keep 5 = .ok (.aload_n 0, 1) := by decide +kernel
theorem dX11_keep_6 : decode cX11_keep 6 = .ok (.getfield 7, 3) := by decide +kernel
theorem dX11_keep_9 : decode cX11_keep 9 = .ok (.bipush 6, 2) := by decide +kernel
theorem dX11_keep_11 : decode cX11_keep 11 = .ok (.iaload, 1) := by decide +kernel
theorem dX11_keep_12 : decode cX11_keep 12 = .ok (.iastore, 1) := by decide +kernel
theorem dX11_keep_13 : decode cX11_keep 13 = .ok (.iconst 0, 1) := by decide +kernel
theorem dX11_keep_14 : decode cX11_keep 14 = .ok (.istore_n 2, 1) := by decide +kernel
theorem dX11_keep_15 : decode cX11_keep 15 = .ok (.iload_n 2, 1) := by decide +kernel
theorem dX11_keep_16 : decode cX11_keep 16 = .ok (.bipush 6, 2) := by decide +kernel
theorem dX11_keep_18 : decode cX11_keep 18 = .ok (.if_icmp .ge 49, 3) := by decide +kernel
theorem dX11_keep_21 : decode cX11_keep 21 = .ok (.aload_n 0, 1) := by decide +kernel
theorem dX11_keep_22 : decode cX11_keep 22 = .ok (.getfield 13, 3) := by decide +kernel
theorem dX11_keep_25 : decode cX11_keep 25 = .ok (.bipush 6, 2) := by decide +kernel
theorem dX11_keep_27 : decode cX11_keep 27 = .ok (.iload_n 1, 1) := by decide +kernel
theorem dX11_keep_28 : decode cX11_keep 28 = .ok (.imul, 1) := by decide +kernel
theorem dX11_keep_29 : decode cX11_keep 29 = .ok (.iload_n 2, 1) := by decide +kernel
theorem dX11_keep_30 : decode cX11_keep 30 = .ok (.iadd, 1) := by decide +kernel
theorem dX11_keep_31 : decode cX11_keep 31 = .ok (.aload_n 0, 1) := by decide +kernel
theorem dX11_keep_32 : decode cX11_keep 32 = .ok (.getfield 13, 3) := by decide +kernel
theorem dX11_keep_35 : decode cX11_keep 35 = .ok (.bipush 36, 2) := by decide +kernel
theorem dX11_keep_37 : decode cX11_keep 37 = .ok (.iload_n 2, 1) := by decide +kernel
theorem dX11_keep_38 : decode cX11_keep 38 = .ok (.iadd, 1) := by decide +kernel
theorem dX11_keep_39 : decode cX11_keep 39 = .ok (.laload, 1) := by decide +kernel
theorem dX11_keep_40 : decode cX11_keep 40 = .ok (.lastore, 1) := by decide +kernel
theorem dX11_keep_41 : decode cX11_keep 41 = .ok (.aload_n 0, 1) := by decide +kernel
theorem dX11_keep_42 : decode cX11_keep 42 = .ok (.getfield 17, 3) := by decide +kernel
theorem dX11_keep_45 : decode cX11_keep 45 = .ok (.bipush 6, 2) := by decide +kernel
theorem dX11_keep_47 : decode cX11_keep 47 = .ok (.iload_n 1, 1) := by decide +kernel
theorem dX11_keep_48 : decode cX11_keep 48 = .ok (.imul, 1) := by decide +kernel
theorem dX11_keep_49 : decode cX11_keep 49 = .ok (.iload_n 2, 1) := by decide +kernel
theorem dX11_keep_50 : decode cX11_keep 50 = .ok (.iadd, 1) := by decide +kernel
theorem dX11_keep_51 : decode cX11_keep 51 = .ok (.aload_n 0, 1) := by decide +kernel
theorem dX11_keep_52 : decode cX11_keep 52 = .ok (.getfield 17, 3) := by decide +kernel
theorem dX11_keep_55 : decode cX11_keep 55 = .ok (.bipush 36, 2) := by decide +kernel
theorem dX11_keep_57 : decode cX11_keep 57 = .ok (.iload_n 2, 1) := by decide +kernel
theorem dX11_keep_58 : decode cX11_keep 58 = .ok (.iadd, 1) := by decide +kernel
theorem dX11_keep_59 : decode cX11_keep 59 = .ok (.laload, 1) := by decide +kernel
theorem dX11_keep_60 : decode cX11_keep 60 = .ok (.lastore, 1) := by decide +kernel
