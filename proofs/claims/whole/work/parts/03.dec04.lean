theorem dX3_tellDrawsFrom_13 : decode cX3_tellDrawsFrom 13 = .ok (.iconst 1, 1) := by decide +kernel
theorem dX3_tellDrawsFrom_14 : decode cX3_tellDrawsFrom 14 = .ok (.iastore, 1) := by decide +kernel
theorem dX3_tellDrawsFrom_15 : decode cX3_tellDrawsFrom 15 = .ok (.iconst 0, 1) := by decide +kernel
theorem dX3_tellDrawsFrom_16 : decode cX3_tellDrawsFrom 16 = .ok (.istore_n 3, 1) := by decide +kernel
theorem dX3_tellDrawsFrom_17 : decode cX3_tellDrawsFrom 17 = .ok (.iload_n 3, 1) := by decide +kernel
theorem dX3_tellDrawsFrom_18 : decode cX3_tellDrawsFrom 18 = .ok (.iload_n 2, 1) := by decide +kernel
theorem dX3_tellDrawsFrom_19 : decode cX3_tellDrawsFrom 19 = .ok (.if_icmp .ge 105, 3) := by decide +kernel
theorem dX3_tellDrawsFrom_22 : decode cX3_tellDrawsFrom 22 = .ok (.aload_n 0, 1) := by decide +kernel
theorem dX3_tellDrawsFrom_23 : decode cX3_tellDrawsFrom 23 = .ok (.getfield 37, 3) := by decide +kernel
theorem dX3_tellDrawsFrom_26 : decode cX3_tellDrawsFrom 26 = .ok (.iconst 0, 1) := by decide +kernel
theorem dX3_tellDrawsFrom_27 : decode cX3_tellDrawsFrom 27 = .ok (.invokestatic 270, 3) := by decide +kernel
theorem dX3_tellDrawsFrom_30 : decode cX3_tellDrawsFrom 30 = .ok (.iconst 0, 1) := by decide +kernel
theorem dX3_tellDrawsFrom_31 : decode cX3_tellDrawsFrom 31 = .ok (.istore 4, 2) := by decide +kernel
theorem dX3_tellDrawsFrom_33 : decode cX3_tellDrawsFrom 33 = .ok (.iload 4, 2) := by decide +kernel
theorem dX3_tellDrawsFrom_35 : decode cX3_tellDrawsFrom 35 = .ok (.aload_n 0, 1) := by decide +kernel
theorem dX3_tellDrawsFrom_36 : decode cX3_tellDrawsFrom 36 = .ok (.getfield 19, 3) := by decide +kernel
theorem dX3_tellDrawsFrom_39 : decode cX3_tellDrawsFrom 39 = .ok (.getfield 201, 3) := by decide +kernel
theorem dX3_tellDrawsFrom_42 : decode cX3_tellDrawsFrom 42 = .ok (.if_icmp .ge 56, 3) := by decide +kernel
theorem dX3_tellDrawsFrom_45 : decode cX3_tellDrawsFrom 45 = .ok (.iconst 0, 1) := by decide +kernel
theorem dX3_tellDrawsFrom_46 : decode cX3_tellDrawsFrom 46 = .ok (.istore 5, 2) := by decide +kernel
theorem dX3_tellDrawsFrom_48 : decode cX3_tellDrawsFrom 48 = .ok (.iload 5, 2) := by decide +kernel
theorem dX3_tellDrawsFrom_50 : decode cX3_tellDrawsFrom 50 = .ok (.aload_n 0, 1) := by decide +kernel
theorem dX3_tellDrawsFrom_51 : decode cX3_tellDrawsFrom 51 = .ok (.getfield 19, 3) := by decide +kernel
theorem dX3_tellDrawsFrom_54 : decode cX3_tellDrawsFrom 54 = .ok (.getfield 73, 3) := by decide +kernel
theorem dX3_tellDrawsFrom_57 : decode cX3_tellDrawsFrom 57 = .ok (.if_icmp .ge 35, 3) := by decide +kernel
theorem dX3_tellDrawsFrom_60 : decode cX3_tellDrawsFrom 60 = .ok (.aload_n 0, 1) := by decide +kernel
theorem dX3_tellDrawsFrom_61 : decode cX3_tellDrawsFrom 61 = .ok (.getfield 37, 3) := by decide +kernel
theorem dX3_tellDrawsFrom_64 : decode cX3_tellDrawsFrom 64 = .ok (.aload_n 0, 1) := by decide +kernel
theorem dX3_tellDrawsFrom_65 : decode cX3_tellDrawsFrom 65 = .ok (.getfield 19, 3) := by decide +kernel
theorem dX3_tellDrawsFrom_68 : decode cX3_tellDrawsFrom 68 = .ok (.iload 5, 2) := by decide +kernel
theorem dX3_tellDrawsFrom_70 : decode cX3_tellDrawsFrom 70 = .ok (.iload 4, 2) := by decide +kernel
theorem dX3_tellDrawsFrom_72 : decode cX3_tellDrawsFrom 72 = .ok (.invokevirtual 114, 3) := by decide +kernel
theorem dX3_tellDrawsFrom_75 : decode cX3_tellDrawsFrom 75 = .ok (.dup2, 1) := by decide +kernel
theorem dX3_tellDrawsFrom_76 : decode cX3_tellDrawsFrom 76 = .ok (.iaload, 1) := by decide +kernel
theorem dX3_tellDrawsFrom_77 : decode cX3_tellDrawsFrom 77 = .ok (.aload_n 0, 1) := by decide +kernel
theorem dX3_tellDrawsFrom_78 : decode cX3_tellDrawsFrom 78 = .ok (.getfield 33, 3) := by decide +kernel
theorem dX3_tellDrawsFrom_81 : decode cX3_tellDrawsFrom 81 = .ok (.iload 4, 2) := by decide +kernel
theorem dX3_tellDrawsFrom_83 : decode cX3_tellDrawsFrom 83 = .ok (.iaload, 1) := by decide +kernel
theorem dX3_tellDrawsFrom_84 : decode cX3_tellDrawsFrom 84 = .ok (.iadd, 1) := by decide +kernel
theorem dX3_tellDrawsFrom_85 : decode cX3_tellDrawsFrom 85 = .ok (.iastore, 1) := by decide +kernel
theorem dX3_tellDrawsFrom_86 : decode cX3_tellDrawsFrom 86 = .ok (.iinc 5 1, 3) := by decide +kernel
theorem dX3_tellDrawsFrom_89 : decode cX3_tellDrawsFrom 89 = .ok (.goto (-41), 3) := by decide +kernel
theorem dX3_tellDrawsFrom_92 : decode cX3_tellDrawsFrom 92 = .ok (.iinc 4 1, 3) := by decide +kernel
theorem dX3_tellDrawsFrom_95 : decode cX3_tellDrawsFrom 95 = .ok (.goto (-62), 3) := by decide +kernel
theorem dX3_tellDrawsFrom_98 : decode cX3_tellDrawsFrom 98 = .ok (.aload_n 0, 1) := by decide +kernel
theorem dX3_tellDrawsFrom_99 : decode cX3_tellDrawsFrom 99 = .ok (.getfield 37, 3) := by decide +kernel
theorem dX3_tellDrawsFrom_102 : decode cX3_tellDrawsFrom 102 = .ok (.iconst 0, 1) := by decide +kernel
theorem dX3_tellDrawsFrom_103 : decode cX3_tellDrawsFrom 103 = .ok (.aload_n 0, 1) := by decide +kernel
theorem dX3_tellDrawsFrom_104 : decode cX3_tellDrawsFrom 104 = .ok (.getfield 33, 3) := by decide +kernel
theorem dX3_tellDrawsFrom_107 : decode cX3_tellDrawsFrom 107 = .ok (.iconst 0, 1) := by decide +kernel
theorem dX3_tellDrawsFrom_108 : decode cX3_tellDrawsFrom 108 = .ok (.aload_n 0, 1) := by decide +kernel
theorem dX3_tellDrawsFrom_109 : decode cX3_tellDrawsFrom 109 = .ok (.getfield 19, 3) := by decide +kernel
theorem dX3_tellDrawsFrom_112 : decode cX3_tellDrawsFrom 112 = .ok (.getfield 201, 3) := by decide +kernel
theorem dX3_tellDrawsFrom_115 : decode cX3_tellDrawsFrom 115 = .ok (.invokestatic 261, 3) := by decide +kernel
theorem dX3_tellDrawsFrom_118 : decode cX3_tellDrawsFrom 118 = .ok (.iinc 3 1, 3) := by decide +kernel
theorem dX3_tellDrawsFrom_121 : decode cX3_tellDrawsFrom 121 = .ok (.goto (-104), 3) := by decide +kernel
theorem dX3_tellDrawsFrom_124 : decode cX3_tellDrawsFrom 124 = .ok (.return_, 1) := by decide +kernel
theorem dX3_drawSteps_0 : decode cX3_drawSteps 0 = .ok (.iload_n 2, 1) := by decide +kernel
theorem dX3_drawSteps_1 : decode cX3_drawSteps 1 = .ok (.i2l, 1) := by decide +kernel
theorem dX3_drawSteps_2 : decode cX3_drawSteps 2 = .ok (.lstore_n 3, 1) := by decide +kernel
theorem dX3_drawSteps_3 : decode cX3_drawSteps 3 = .ok (.aload_n 0, 1) := by decide +kernel
theorem dX3_drawSteps_4 : decode cX3_drawSteps 4 = .ok (.getfield 29, 3) := by decide +kernel
theorem dX3_drawSteps_7 : decode cX3_drawSteps 7 = .ok (.aload_n 0, 1) := by decide +kernel
theorem dX3_drawSteps_8 : decode cX3_drawSteps 8 = .ok (.getfield 19, 3) := by decide +kernel
theorem dX3_drawSteps_11 : decode cX3_drawSteps 11 = .ok (.getfield 201, 3) := by decide +kernel
theorem dX3_drawSteps_14 : decode cX3_drawSteps 14 = .ok (.invokevirtual 254, 3) := by decide +kernel
theorem dX3_drawSteps_17 : decode cX3_drawSteps 17 = .ok (.iconst 0, 1) := by decide +kernel
theorem dX3_drawSteps_18 : decode cX3_drawSteps 18 = .ok (.istore 5, 2) := by decide +kernel
theorem dX3_drawSteps_20 : decode cX3_drawSteps 20 = .ok (.iload 5, 2) := by decide +kernel
theorem dX3_drawSteps_22 : decode cX3_drawSteps 22 = .ok (.iload_n 1, 1) := by decide +kernel
theorem dX3_drawSteps_23 : decode cX3_drawSteps 23 = .ok (.if_icmp .ge 59, 3) := by decide +kernel
theorem dX3_drawSteps_26 : decode cX3_drawSteps 26 = .ok (.aload_n 0, 1) := by decide +kernel
theorem dX3_drawSteps_27 : decode cX3_drawSteps 27 = .ok (.getfield 19, 3) := by decide +kernel
theorem dX3_drawSteps_30 : decode cX3_drawSteps 30 = .ok (.getfield 73, 3) := by decide +kernel
theorem dX3_drawSteps_33 : decode cX3_drawSteps 33 = .ok (.ifCond .le 49, 3) := by decide +kernel
theorem dX3_drawSteps_36 : decode cX3_drawSteps 36 = .ok (.ldc2_w 293, 3) := by decide +kernel
theorem dX3_drawSteps_39 : decode cX3_drawSteps 39 = .ok (.lload_n 3, 1) := by decide +kernel
theorem dX3_drawSteps_40 : decode cX3_drawSteps 40 = .ok (.lmul, 1) := by decide +kernel
theorem dX3_drawSteps_41 : decode cX3_drawSteps 41 = .ok (.ldc2_w 295, 3) := by decide +kernel
theorem dX3_drawSteps_44 : decode cX3_drawSteps 44 = .ok (.ladd, 1) := by decide +kernel
theorem dX3_drawSteps_45 : decode cX3_drawSteps 45 = .ok (.ldc2_w 297, 3) := by decide +kernel
theorem dX3_drawSteps_48 : decode cX3_drawSteps 48 = .ok (.lrem, 1) := by decide +kernel
theorem dX3_drawSteps_49 : decode cX3_drawSteps 49 = .ok (.lstore_n 3, 1) := by decide +kernel
theorem dX3_drawSteps_50 : decode cX3_drawSteps 50 = .ok (.aload_n 0, 1) := by decide +kernel
theorem dX3_drawSteps_51 : decode cX3_drawSteps 51 = .ok (.getfield 29, 3) := by decide +kernel
theorem dX3_drawSteps_54 : decode cX3_drawSteps 54 = .ok (.aload_n 0, 1) := by decide +kernel
theorem dX3_drawSteps_55 : decode cX3_drawSteps 55 = .ok (.getfield 19, 3) := by decide +kernel
theorem dX3_drawSteps_58 : decode cX3_drawSteps 58 = .ok (.lload_n 3, 1) := by decide +kernel
theorem dX3_drawSteps_59 : decode cX3_drawSteps 59 = .ok (.ldc2_w 299, 3) := by decide +kernel
theorem dX3_drawSteps_62 : decode cX3_drawSteps 62 = .ok (.ldiv, 1) := by decide +kernel
theorem dX3_drawSteps_63 : decode cX3_drawSteps 63 = .ok (.aload_n 0, 1) := by decide +kernel
theorem dX3_drawSteps_64 : decode cX3_drawSteps 64 = .ok (.getfield 19, 3) := by decide +kernel
theorem dX3_drawSteps_67 : decode cX3_drawSteps 67 = .ok (.getfield 73, 3) := by decide +kernel
theorem dX3_drawSteps_70 : decode cX3_drawSteps 70 = .ok (.i2l, 1) := by decide +kernel
theorem dX3_drawSteps_71 : decode cX3_drawSteps 71 = .ok (.lrem, 1) := by decide +kernel
theorem dX3_drawSteps_72 : decode cX3_drawSteps 72 = .ok (.l2i, 1) := by decide +kernel
theorem dX3_drawSteps_73 : decode cX3_drawSteps 73 = .ok (.invokevirtual 257, 3) := by decide +kernel
theorem dX3_drawSteps_76 : decode cX3_drawSteps 76 = .ok (.iinc 5 1, 3) := by decide +kernel
theorem dX3_drawSteps_79 : decode cX3_drawSteps 79 = .ok (.goto (-59), 3) := by decide +kernel
theorem dX3_drawSteps_82 : decode cX3_drawSteps 82 = .ok (.lload_n 3, 1) := by decide +kernel
theorem dX3_drawSteps_83 : decode cX3_drawSteps 83 = .ok (.l2i, 1) := by decide +kernel
theorem dX3_drawSteps_84 : decode cX3_drawSteps 84 = .ok (.ireturn, 1) := by decide +kernel
theorem dX3_isOfKind_0 : decode cX3_isOfKind 0 = .ok (.iload_n 1, 1) := by decide +kernel
theorem dX3_isOfKind_1 : decode cX3_isOfKind 1 = .ok (.ifCond .eq 18, 3) := by decide +kernel
theorem dX3_isOfKind_4 : decode cX3_isOfKind 4 = .ok (.iload_n 1, 1) := by decide +kernel
theorem dX3_isOfKind_5 : decode cX3_isOfKind 5 = .ok (.iload_n 0, 1) := by decide +kernel
theorem dX3_isOfKind_6 : decode cX3_isOfKind 6 = .ok (.if_icmp .eq 13, 3) := by decide +kernel
theorem dX3_isOfKind_9 : decode cX3_isOfKind 9 = .ok (.iload_n 1, 1) := by decide +kernel
theorem dX3_isOfKind_10 : decode cX3_isOfKind 10 = .ok (.iconst 2, 1) := by decide +kernel
theorem dX3_isOfKind_11 : decode cX3_isOfKind 11 = .ok (.if_icmp .ne 12, 3) := by decide +kernel
theorem dX3_isOfKind_14 : decode cX3_isOfKind 14 = .ok (.iload_n 0, 1) := by decide +kernel
theorem dX3_isOfKind_15 : decode cX3_isOfKind 15 = .ok (.iconst 4, 1) := by decide +kernel
theorem dX3_isOfKind_16 : decode cX3_isOfKind 16 = .ok (.if_icmp .ne 7, 3) := by decide +kernel
theorem dX3_isOfKind_19 : decode cX3_isOfKind 19 = .ok (.iconst 1, 1) := by decide +kernel
theorem dX3_isOfKind_20 : decode cX3_isOfKind 20 = .ok (.goto 4, 3) := by decide +kernel
theorem dX3_isOfKind_23 : decode cX3_isOfKind 23 = .ok (.iconst 0, 1) := by decide +kernel
theorem dX3_isOfKind_24 : decode cX3_isOfKind 24 = .ok (.ireturn, 1) := by decide +kernel
theorem dX3_greatestDivisor_0 : decode cX3_greatestDivisor 0 = .ok (.iload_n 0, 1) := by decide +kernel
theorem dX3_greatestDivisor_1 : decode cX3_greatestDivisor 1 = .ok (.istore_n 2, 1) := by decide +kernel
theorem dX3_greatestDivisor_2 : decode cX3_greatestDivisor 2 = .ok (.iload_n 1, 1) := by decide +kernel
theorem dX3_greatestDivisor_3 : decode cX3_greatestDivisor 3 = .ok (.istore_n 3, 1) := by decide +kernel
theorem dX3_greatestDivisor_4 : decode cX3_greatestDivisor 4 = .ok (.iconst 0, 1) := by decide +kernel
theorem dX3_greatestDivisor_5 : decode cX3_greatestDivisor 5 = .ok (.istore 4, 2) := by decide +kernel
theorem dX3_greatestDivisor_7 : decode cX3_greatestDivisor 7 = .ok (.iload 4, 2) := by decide +kernel
theorem dX3_greatestDivisor_9 : decode cX3_greatestDivisor 9 = .ok (.bipush 64, 2) := by decide +kernel
theorem dX3_greatestDivisor_11 : decode cX3_greatestDivisor 11 = .ok (.if_icmp .ge 23, 3) := by decide +kernel
theorem dX3_greatestDivisor_14 : decode cX3_greatestDivisor 14 = .ok (.iload_n 3, 1) := by decide +kernel
theorem dX3_greatestDivisor_15 : decode cX3_greatestDivisor 15 = .ok (.ifCond .le 19, 3) := by decide +kernel
theorem dX3_greatestDivisor_18 : decode cX3_greatestDivisor 18 = .ok (.iload_n 2, 1) := by decide +kernel
theorem dX3_greatestDivisor_19 : decode cX3_greatestDivisor 19 = .ok (.iload_n 3, 1) := by decide +kernel
theorem dX3_greatestDivisor_20 : decode cX3_greatestDivisor 20 = .ok (.irem, 1) := by decide +kernel
theorem dX3_greatestDivisor_21 : decode cX3_greatestDivisor 21 = .ok (.istore 5, 2) := by decide +kernel
theorem dX3_greatestDivisor_23 : decode cX3_greatestDivisor 23 = .ok (.iload_n 3, 1) := by decide +kernel
theorem dX3_greatestDivisor_24 : decode cX3_greatestDivisor 24 = .ok (.istore_n 2, 1) := by decide +kernel
theorem dX3_greatestDivisor_25 : decode cX3_greatestDivisor 25 = .ok (.iload 5, 2) := by decide +kernel
theorem dX3_greatestDivisor_27 : decode cX3_greatestDivisor 27 = .ok (.istore_n 3, 1) := by decide +kernel
theorem dX3_greatestDivisor_28 : decode cX3_greatestDivisor 28 = .ok (.iinc 4 1, 3) := by decide +kernel
theorem dX3_greatestDivisor_31 : decode cX3_greatestDivisor 31 = .ok (.goto (-24), 3) := by decide +kernel
theorem dX3_greatestDivisor_34 : decode cX3_greatestDivisor 34 = .ok (.iload_n 2, 1) := by decide +kernel
theorem dX3_greatestDivisor_35 : decode cX3_greatestDivisor 35 = .ok (.ireturn, 1) := by decide +kernel
theorem dX3_moved_0 : decode cX3_moved 0 = .ok (.iload_n 0, 1) := by decide +kernel
theorem dX3_moved_1 : decode cX3_moved 1 = .ok (.tableswitch 64 1 4 #[31, 38, 46, 56], 31) := by decide +kernel
theorem dX3_moved_32 : decode cX3_moved 32 = .ok (.iload_n 1, 1) := by decide +kernel
theorem dX3_moved_33 : decode cX3_moved 33 = .ok (.iload_n 2, 1) := by decide +kernel
theorem dX3_moved_34 : decode cX3_moved 34 = .ok (.iload_n 3, 1) := by decide +kernel
theorem dX3_moved_35 : decode cX3_moved 35 = .ok (.invokestatic 301, 3) := by decide +kernel
theorem dX3_moved_38 : decode cX3_moved 38 = .ok (.ireturn, 1) := by decide +kernel
theorem dX3_moved_39 : decode cX3_moved 39 = .ok (.iload_n 1, 1) := by decide +kernel
theorem dX3_moved_40 : decode cX3_moved 40 = .ok (.iload_n 2, 1) := by decide +kernel
theorem dX3_moved_41 : decode cX3_moved 41 = .ok (.iload_n 3, 1) := by decide +kernel
theorem dX3_moved_42 : decode cX3_moved 42 = .ok (.iconst 0, 1) := by decide +kernel
theorem dX3_moved_43 : decode cX3_moved 43 = .ok (.invokestatic 304, 3) := by decide +kernel
theorem dX3_moved_46 : decode cX3_moved 46 = .ok (.ireturn, 1) := by decide +kernel
theorem dX3_moved_47 : decode cX3_moved 47 = .ok (.iload_n 1, 1) := by decide +kernel
theorem dX3_moved_48 : decode cX3_moved 48 = .ok (.iload_n 2, 1) := by decide +kernel
theorem dX3_moved_49 : decode cX3_moved 49 = .ok (.invokestatic 308, 3) := by decide +kernel
theorem dX3_moved_52 : decode cX3_moved 52 = .ok (.iload_n 3, 1) := by decide +kernel
theorem dX3_moved_53 : decode cX3_moved 53 = .ok (.invokestatic 311, 3) := by decide +kernel
theorem dX3_moved_56 : decode cX3_moved 56 = .ok (.ireturn, 1) := by decide +kernel
theorem dX3_moved_57 : decode cX3_moved 57 = .ok (.iload_n 1, 1) := by decide +kernel
theorem dX3_moved_58 : decode cX3_moved 58 = .ok (.iload_n 2, 1) := by decide +kernel
theorem dX3_moved_59 : decode cX3_moved 59 = .ok (.iload_n 3, 1) := by decide +kernel
theorem dX3_moved_60 : decode cX3_moved 60 = .ok (.iconst 1, 1) := by decide +kernel
theorem dX3_moved_61 : decode cX3_moved 61 = .ok (.invokestatic 304, 3) := by decide +kernel
theorem dX3_moved_64 : decode cX3_moved 64 = .ok (.ireturn, 1) := by decide +kernel
theorem dX3_moved_65 : decode cX3_moved 65 = .ok (.iload_n 1, 1) := by decide +kernel
theorem dX3_moved_66 : decode cX3_moved 66 = .ok (.iload_n 2, 1) := by decide +kernel
theorem dX3_moved_67 : decode cX3_moved 67 = .ok (.iconst 1, 1) := by decide +kernel
theorem dX3_moved_68 : decode cX3_moved 68 = .ok (.isub, 1) := by decide +kernel
theorem dX3_moved_69 : decode cX3_moved 69 = .ok (.invokestatic 308, 3) := by decide +kernel
theorem dX3_moved_72 : decode cX3_moved 72 = .ok (.iload_n 3, 1) := by decide +kernel
theorem dX3_moved_73 : decode cX3_moved 73 = .ok (.invokestatic 314, 3) := by decide +kernel
theorem dX3_moved_76 : decode cX3_moved 76 = .ok (.ireturn, 1) := by decide +kernel
theorem dX3_movedByStep_0 : decode cX3_movedByStep 0 = .ok (.iload_n 1, 1) := by decide +kernel
theorem dX3_movedByStep_1 : decode cX3_movedByStep 1 = .ok (.ifCond .ne 5, 3) := by decide +kernel
theorem dX3_movedByStep_4 : decode cX3_movedByStep 4 = .ok (.iload_n 0, 1) := by decide +kernel
theorem dX3_movedByStep_5 : decode cX3_movedByStep 5 = .ok (.ireturn, 1) := by decide +kernel
theorem dX3_movedByStep_6 : decode cX3_movedByStep 6 = .ok (.iload_n 1, 1) := by decide +kernel
theorem dX3_movedByStep_7 : decode cX3_movedByStep 7 = .ok (.iload_n 0, 1) := by decide +kernel
theorem dX3_movedByStep_8 : decode cX3_movedByStep 8 = .ok (.if_icmp .gt 9, 3) := by decide +kernel
theorem dX3_movedByStep_11 : decode cX3_movedByStep 11 = .ok (.iload_n 1, 1) := by decide +kernel
theorem dX3_movedByStep_12 : decode cX3_movedByStep 12 = .ok (.iconst 1, 1) := by decide +kernel
theorem dX3_movedByStep_13 : decode cX3_movedByStep 13 = .ok (.isub, 1) := by decide +kernel
theorem dX3_movedByStep_14 : decode cX3_movedByStep 14 = .ok (.goto 4, 3) := by decide +kernel
theorem dX3_movedByStep_17 : decode cX3_movedByStep 17 = .ok (.iload_n 1, 1) := by decide +kernel
theorem dX3_movedByStep_18 : decode cX3_movedByStep 18 = .ok (.ireturn, 1) := by decide +kernel
theorem dX3_movedByCut_0 : decode cX3_movedByCut 0 = .ok (.iload_n 1, 1) := by decide +kernel
theorem dX3_movedByCut_1 : decode cX3_movedByCut 1 = .ok (.ifCond .le 9, 3) := by decide +kernel
theorem dX3_movedByCut_4 : decode cX3_movedByCut 4 = .ok (.iload_n 0, 1) := by decide +kernel
theorem dX3_movedByCut_5 : decode cX3_movedByCut 5 = .ok (.iload_n 1, 1) := by decide +kernel
theorem dX3_movedByCut_6 : decode cX3_movedByCut 6 = .ok (.irem, 1) := by decide +kernel
theorem dX3_movedByCut_7 : decode cX3_movedByCut 7 = .ok (.goto 4, 3) := by decide +kernel
theorem dX3_movedByCut_10 : decode cX3_movedByCut 10 = .ok (.iconst 0, 1) := by decide +kernel
theorem dX3_movedByCut_11 : decode cX3_movedByCut 11 = .ok (.istore_n 3, 1) := by decide +kernel
theorem dX3_movedByCut_12 : decode cX3_movedByCut 12 = .ok (.iload_n 2, 1) := by decide +kernel
theorem dX3_movedByCut_13 : decode cX3_movedByCut 13 = .ok (.iload_n 3, 1) := by decide +kernel
theorem dX3_movedByCut_14 : decode cX3_movedByCut 14 = .ok (.if_icmp .ge 11, 3) := by decide +kernel
theorem dX3_movedByCut_17 : decode cX3_movedByCut 17 = .ok (.iload_n 2, 1) := by decide +kernel
theorem dX3_movedByCut_18 : decode cX3_movedByCut 18 = .ok (.iload_n 3, 1) := by decide +kernel
theorem dX3_movedByCut_19 : decode cX3_movedByCut 19 = .ok (.isub, 1) := by decide +kernel
theorem dX3_movedByCut_20 : decode cX3_movedByCut 20 = .ok (.iload_n 1, 1) := by decide +kernel
theorem dX3_movedByCut_21 : decode cX3_movedByCut 21 = .ok (.iadd, 1) := by decide +kernel
theorem dX3_movedByCut_22 : decode cX3_movedByCut 22 = .ok (.goto 6, 3) := by decide +kernel
theorem dX3_movedByCut_25 : decode cX3_movedByCut 25 = .ok (.iload_n 2, 1) := by decide +kernel
theorem dX3_movedByCut_26 : decode cX3_movedByCut 26 = .ok (.iload_n 3, 1) := by decide +kernel
theorem dX3_movedByCut_27 : decode cX3_movedByCut 27 = .ok (.isub, 1) := by decide +kernel
theorem dX3_movedByCut_28 : decode cX3_movedByCut 28 = .ok (.ireturn, 1) := by decide +kernel
theorem dX3_movedByTurn_0 : decode cX3_movedByTurn 0 = .ok (.iload_n 1, 1) := by decide +kernel
theorem dX3_movedByTurn_1 : decode cX3_movedByTurn 1 = .ok (.iload_n 0, 1) := by decide +kernel
theorem dX3_movedByTurn_2 : decode cX3_movedByTurn 2 = .ok (.if_icmp .ge 11, 3) := by decide +kernel
theorem dX3_movedByTurn_5 : decode cX3_movedByTurn 5 = .ok (.iload_n 0, 1) := by decide +kernel
theorem dX3_movedByTurn_6 : decode cX3_movedByTurn 6 = .ok (.iconst 1, 1) := by decide +kernel
theorem dX3_movedByTurn_7 : decode cX3_movedByTurn 7 = .ok (.isub, 1) := by decide +kernel
theorem dX3_movedByTurn_8 : decode cX3_movedByTurn 8 = .ok (.iload_n 1, 1) := by decide +kernel
theorem dX3_movedByTurn_9 : decode cX3_movedByTurn 9 = .ok (.isub, 1) := by decide +kernel
theorem dX3_movedByTurn_10 : decode cX3_movedByTurn 10 = .ok (.goto 4, 3) := by decide +kernel
theorem dX3_movedByTurn_13 : decode cX3_movedByTurn 13 = .ok (.iload_n 1, 1) := by decide +kernel
theorem dX3_movedByTurn_14 : decode cX3_movedByTurn 14 = .ok (.ireturn, 1) := by decide +kernel
theorem dX3_movedByDeal_0 : decode cX3_movedByDeal 0 = .ok (.iconst 1, 1) := by decide +kernel
theorem dX3_movedByDeal_1 : decode cX3_movedByDeal 1 = .ok (.iload_n 0, 1) := by decide +kernel
theorem dX3_movedByDeal_2 : decode cX3_movedByDeal 2 = .ok (.iload_n 1, 1) := by decide +kernel
theorem dX3_movedByDeal_3 : decode cX3_movedByDeal 3 = .ok (.invokestatic 308, 3) := by decide +kernel
theorem dX3_movedByDeal_6 : decode cX3_movedByDeal 6 = .ok (.invokestatic 279, 3) := by decide +kernel
theorem dX3_movedByDeal_9 : decode cX3_movedByDeal 9 = .ok (.istore 4, 2) := by decide +kernel
theorem dX3_movedByDeal_11 : decode cX3_movedByDeal 11 = .ok (.iload_n 1, 1) := by decide +kernel
theorem dX3_movedByDeal_12 : decode cX3_movedByDeal 12 = .ok (.iload 4, 2) := by decide +kernel
theorem dX3_movedByDeal_14 : decode cX3_movedByDeal 14 = .ok (.idiv, 1) := by decide +kernel
theorem dX3_movedByDeal_15 : decode cX3_movedByDeal 15 = .ok (.istore 5, 2) := by decide +kernel
theorem dX3_movedByDeal_17 : decode cX3_movedByDeal 17 = .ok (.iload_n 1, 1) := by decide +kernel
theorem dX3_movedByDeal_18 : decode cX3_movedByDeal 18 = .ok (.iload 4, 2) := by decide +kernel
theorem dX3_movedByDeal_20 : decode cX3_movedByDeal 20 = .ok (.irem, 1) := by decide +kernel
theorem dX3_movedByDeal_21 : decode cX3_movedByDeal 21 = .ok (.istore 6, 2) := by decide +kernel
theorem dX3_movedByDeal_23 : decode cX3_movedByDeal 23 = .ok (.iload_n 2, 1) := by decide +kernel
theorem dX3_movedByDeal_24 : decode cX3_movedByDeal 24 = .ok (.iload 4, 2) := by decide +kernel
theorem dX3_movedByDeal_26 : decode cX3_movedByDeal 26 = .ok (.irem, 1) := by decide +kernel
theorem dX3_movedByDeal_27 : decode cX3_movedByDeal 27 = .ok (.istore 7, 2) := by decide +kernel
theorem dX3_movedByDeal_29 : decode cX3_movedByDeal 29 = .ok (.iload 7, 2) := by decide +kernel
theorem dX3_movedByDeal_31 : decode cX3_movedByDeal 31 = .ok (.iload 6, 2) := by decide +kernel
theorem dX3_movedByDeal_33 : decode cX3_movedByDeal 33 = .ok (.if_icmp .ge 10, 3) := by decide +kernel
theorem dX3_movedByDeal_36 : decode cX3_movedByDeal 36 = .ok (.iload 5, 2) := by decide +kernel
theorem dX3_movedByDeal_38 : decode cX3_movedByDeal 38 = .ok (.iconst 1, 1) := by decide +kernel
theorem dX3_movedByDeal_39 : decode cX3_movedByDeal 39 = .ok (.iadd, 1) := by decide +kernel
theorem dX3_movedByDeal_40 : decode cX3_movedByDeal 40 = .ok (.goto 5, 3) := by decide +kernel
theorem dX3_movedByDeal_43 : decode cX3_movedByDeal 43 = .ok (.iload 5, 2) := by decide +kernel
theorem dX3_movedByDeal_45 : decode cX3_movedByDeal 45 = .ok (.istore 8, 2) := by decide +kernel
theorem dX3_movedByDeal_47 : decode cX3_movedByDeal 47 = .ok (.iload 7, 2) := by decide +kernel
theorem dX3_movedByDeal_49 : decode cX3_movedByDeal 49 = .ok (.iload 5, 2) := by decide +kernel
theorem dX3_movedByDeal_51 : decode cX3_movedByDeal 51 = .ok (.imul, 1) := by decide +kernel
theorem dX3_movedByDeal_52 : decode cX3_movedByDeal 52 = .ok (.iload 7, 2) := by decide +kernel
theorem dX3_movedByDeal_54 : decode cX3_movedByDeal 54 = .ok (.iload 6, 2) := by decide +kernel
theorem dX3_movedByDeal_56 : decode cX3_movedByDeal 56 = .ok (.invokestatic 308, 3) := by decide +kernel
theorem dX3_movedByDeal_59 : decode cX3_movedByDeal 59 = .ok (.iadd, 1) := by decide +kernel
theorem dX3_movedByDeal_60 : decode cX3_movedByDeal 60 = .ok (.istore 9, 2) := by decide +kernel
theorem dX3_movedByDeal_62 : decode cX3_movedByDeal 62 = .ok (.iload_n 3, 1) := by decide +kernel
theorem dX3_movedByDeal_63 : decode cX3_movedByDeal 63 = .ok (.ifCond .eq 8, 3) := by decide +kernel
theorem dX3_movedByDeal_66 : decode cX3_movedByDeal 66 = .ok (.iload 9, 2) := by decide +kernel
theorem dX3_movedByDeal_68 : decode cX3_movedByDeal 68 = .ok (.goto 10, 3) := by decide +kernel
theorem dX3_movedByDeal_71 : decode cX3_movedByDeal 71 = .ok (.iload_n 1, 1) := by decide +kernel
theorem dX3_movedByDeal_72 : decode cX3_movedByDeal 72 = .ok (.iload 9, 2) := by decide +kernel
theorem dX3_movedByDeal_74 : decode cX3_movedByDeal 74 = .ok (.isub, 1) := by decide +kernel
theorem dX3_movedByDeal_75 : decode cX3_movedByDeal 75 = .ok (.iload 8, 2) := by decide +kernel
theorem dX3_movedByDeal_77 : decode cX3_movedByDeal 77 = .ok (.isub, 1) := by decide +kernel
theorem dX3_movedByDeal_78 : decode cX3_movedByDeal 78 = .ok (.istore 10, 2) := by decide +kernel
theorem dX3_movedByDeal_80 : decode cX3_movedByDeal 80 = .ok (.iload 10, 2) := by decide +kernel
theorem dX3_movedByDeal_82 : decode cX3_movedByDeal 82 = .ok (.iload 8, 2) := by decide +kernel
theorem dX3_movedByDeal_84 : decode cX3_movedByDeal 84 = .ok (.iadd, 1) := by decide +kernel
theorem dX3_movedByDeal_85 : decode cX3_movedByDeal 85 = .ok (.iconst 1, 1) := by decide +kernel
theorem dX3_movedByDeal_86 : decode cX3_movedByDeal 86 = .ok (.isub, 1) := by decide +kernel
theorem dX3_movedByDeal_87 : decode cX3_movedByDeal 87 = .ok (.iload_n 2, 1) := by decide +kernel
theorem dX3_movedByDeal_88 : decode cX3_movedByDeal 88 = .ok (.iload 4, 2) := by decide +kernel
theorem dX3_movedByDeal_90 : decode cX3_movedByDeal 90 = .ok (.idiv, 1) := by decide +kernel
theorem dX3_movedByDeal_91 : decode cX3_movedByDeal 91 = .ok (.isub, 1) := by decide +kernel
theorem dX3_movedByDeal_92 : decode cX3_movedByDeal 92 = .ok (.ireturn, 1) := by decide +kernel
theorem dX4_init_0 : decode cX4_init 0 = .ok (.aload_n 0, 1) := by decide +kernel
theorem dX4_init_1 : decode cX4_init 1 = .ok (.invokespecial 1, 3) := by decide +kernel
theorem dX4_init_4 : decode cX4_init 4 = .ok (.aload_n 0, 1) := by decide +kernel
theorem dX4_init_5 : decode cX4_init 5 = .ok (.bipush 22, 2) := by decide +kernel
theorem dX4_init_7 : decode cX4_init 7 = .ok (.newarray .int, 2) := by decide +kernel
theorem dX4_init_9 : decode cX4_init 9 = .ok (.putfield 7, 3) := by decide +kernel
theorem dX4_init_12 : decode cX4_init 12 = .ok (.aload_n 0, 1) := by decide +kernel
theorem dX4_init_13 : decode cX4_init 13 = .ok (.bipush 6, 2) := by decide +kernel
theorem dX4_init_15 : decode cX4_init 15 = .ok (.newarray .int, 2) := by decide +kernel
theorem dX4_init_17 : decode cX4_init 17 = .ok (.putfield 13, 3) := by decide +kernel
theorem dX4_init_20 : decode cX4_init 20 = .ok (.aload_n 0, 1) := by decide +kernel
theorem dX4_init_21 : decode cX4_init 21 = .ok (.bipush 6, 2) := by decide +kernel
theorem dX4_init_23 : decode cX4_init 23 = .ok (.newarray .int, 2) := by decide +kernel
theorem dX4_init_25 : decode cX4_init 25 = .ok (.putfield 16, 3) := by decide +kernel
theorem dX4_init_28 : decode cX4_init 28 = .ok (.aload_n 0, 1) := by decide +kernel
theorem dX4_init_29 : decode cX4_init 29 = .ok (.bipush 12, 2) := by decide +kernel
theorem dX4_init_31 : decode cX4_init 31 = .ok (.newarray .int, 2) := by decide +kernel
theorem dX4_init_33 : decode cX4_init 33 = .ok (.putfield 19, 3) := by decide +kernel
theorem dX4_init_36 : decode cX4_init 36 = .ok (.aload_n 0, 1) := by decide +kernel
theorem dX4_init_37 : decode cX4_init 37 = .ok (.bipush 12, 2) := by decide +kernel
theorem dX4_init_39 : decode cX4_init 39 = .ok (.newarray .int, 2) := by decide +kernel
theorem dX4_init_41 : decode cX4_init 41 = .ok (.putfield 22, 3) := by decide +kernel
theorem dX4_init_44 : decode cX4_init 44 = .ok (.aload_n 0, 1) := by decide +kernel
theorem dX4_init_45 : decode cX4_init 45 = .ok (.bipush 12, 2) := by decide +kernel
theorem dX4_init_47 : decode cX4_init 47 = .ok (.newarray .int, 2) := by decide +kernel
theorem dX4_init_49 : decode cX4_init 49 = .ok (.putfield 25, 3) := by decide +kernel
theorem dX4_init_52 : decode cX4_init 52 = .ok (.aload_n 0, 1) := by decide +kernel
theorem dX4_init_53 : decode cX4_init 53 = .ok (.bipush 12, 2) := by decide +kernel
theorem dX4_init_55 : decode cX4_init 55 = .ok (.newarray .int, 2) := by decide +kernel
theorem dX4_init_57 : decode cX4_init 57 = .ok (.putfield 28, 3) := by decide +kernel
theorem dX4_init_60 : decode cX4_init 60 = .ok (.aload_n 0, 1) := by decide +kernel
theorem dX4_init_61 : decode cX4_init 61 = .ok (.bipush 12, 2) := by decide +kernel
theorem dX4_init_63 : decode cX4_init 63 = .ok (.newarray .int, 2) := by decide +kernel
theorem dX4_init_65 : decode cX4_init 65 = .ok (.putfield 31, 3) := by decide +kernel
theorem dX4_init_68 : decode cX4_init 68 = .ok (.aload_n 0, 1) := by decide +kernel
theorem dX4_init_69 : decode cX4_init 69 = .ok (.bipush 12, 2) := by decide +kernel
theorem dX4_init_71 : decode cX4_init 71 = .ok (.newarray .int, 2) := by decide +kernel
theorem dX4_init_73 : decode cX4_init 73 = .ok (.putfield 34, 3) := by decide +kernel
theorem dX4_init_76 : decode cX4_init 76 = .ok (.aload_n 0, 1) := by decide +kernel
theorem dX4_init_77 : decode cX4_init 77 = .ok (.bipush 12, 2) := by decide +kernel
theorem dX4_init_79 : decode cX4_init 79 = .ok (.newarray .int, 2) := by decide +kernel
theorem dX4_init_81 : decode cX4_init 81 = .ok (.putfield 37, 3) := by decide +kernel
theorem dX4_init_84 : decode cX4_init 84 = .ok (.aload_n 0, 1) := by decide +kernel
theorem dX4_init_85 : decode cX4_init 85 = .ok (.bipush 18, 2) := by decide +kernel
theorem dX4_init_87 : decode cX4_init 87 = .ok (.newarray .int, 2) := by decide +kernel
theorem dX4_init_89 : decode cX4_init 89 = .ok (.putfield 40, 3) := by decide +kernel
theorem dX4_init_92 : decode cX4_init 92 = .ok (.aload_n 0, 1) := by decide +kernel
theorem dX4_init_93 : decode cX4_init 93 = .ok (.bipush 6, 2) := by decide +kernel
theorem dX4_init_95 : decode cX4_init 95 = .ok (.newarray .int, 2) := by decide +kernel
theorem dX4_init_97 : decode cX4_init 97 = .ok (.putfield 43, 3) := by decide +kernel
theorem dX4_init_100 : decode cX4_init 100 = .ok (.aload_n 0, 1) := by decide +kernel
theorem dX4_init_101 : decode cX4_init 101 = .ok (.bipush 6, 2) := by decide +kernel
theorem dX4_init_103 : decode cX4_init 103 = .ok (.newarray .int, 2) := by decide +kernel
theorem dX4_init_105 : decode cX4_init 105 = .ok (.putfield 46, 3) := by decide +kernel
theorem dX4_init_108 : decode cX4_init 108 = .ok (.aload_n 0, 1) := by decide +kernel
theorem dX4_init_109 : decode cX4_init 109 = .ok (.bipush 12, 2) := by decide +kernel
theorem dX4_init_111 : decode cX4_init 111 = .ok (.newarray .int, 2) := by decide +kernel
theorem dX4_init_113 : decode cX4_init 113 = .ok (.putfield 49, 3) := by decide +kernel
theorem dX4_init_116 : decode cX4_init 116 = .ok (.aload_n 0, 1) := by decide +kernel
theorem dX4_init_117 : decode cX4_init 117 = .ok (.bipush 18, 2) := by decide +kernel
theorem dX4_init_119 : decode cX4_init 119 = .ok (.newarray .int, 2) := by decide +kernel
theorem dX4_init_121 : decode cX4_init 121 = .ok (.putfield 52, 3) := by decide +kernel
theorem dX4_init_124 : decode cX4_init 124 = .ok (.aload_n 0, 1) := by decide +kernel
theorem dX4_init_125 : decode cX4_init 125 = .ok (.iconst (-1), 1) := by decide +kernel
theorem dX4_init_126 : decode cX4_init 126 = .ok (.putfield 55, 3) := by decide +kernel
theorem dX4_init_129 : decode cX4_init 129 = .ok (.return_, 1) := by decide +kernel
theorem dX4_in_0 : decode cX4_in 0 = .ok (.lload_n 0, 1) := by decide +kernel
theorem dX4_in_1 : decode cX4_in 1 = .ok (.lload_n 2, 1) := by decide +kernel
theorem dX4_in_2 : decode cX4_in 2 = .ok (.lcmp, 1) := by decide +kernel
theorem dX4_in_3 : decode cX4_in 3 = .ok (.ifCond .lt 14, 3) := by decide +kernel
theorem dX4_in_6 : decode cX4_in 6 = .ok (.lload_n 0, 1) := by decide +kernel
theorem dX4_in_7 : decode cX4_in 7 = .ok (.lload 4, 2) := by decide +kernel
theorem dX4_in_9 : decode cX4_in 9 = .ok (.lcmp, 1) := by decide +kernel
theorem dX4_in_10 : decode cX4_in 10 = .ok (.ifCond .gt 7, 3) := by decide +kernel
theorem dX4_in_13 : decode cX4_in 13 = .ok (.iconst 1, 1) := by decide +kernel
theorem dX4_in_14 : decode cX4_in 14 = .ok (.goto 4, 3) := by decide +kernel
theorem dX4_in_17 : decode cX4_in 17 = .ok (.iconst 0, 1) := by decide +kernel
theorem dX4_in_18 : decode cX4_in 18 = .ok (.ireturn, 1) := by decide +kernel
theorem dX4_copy_0 : decode cX4_copy 0 = .ok (.iconst 0, 1) := by decide +kernel
theorem dX4_copy_1 : decode cX4_copy 1 = .ok (.istore_n 2, 1) := by decide +kernel
theorem dX4_copy_2 : decode cX4_copy 2 = .ok (.iload_n 2, 1) := by decide +kernel
theorem dX4_copy_3 : decode cX4_copy 3 = .ok (.aload_n 0, 1) := by decide +kernel
theorem dX4_copy_4 : decode cX4_copy 4 = .ok (.arraylength, 1) := by decide +kernel
theorem dX4_copy_5 : decode cX4_copy 5 = .ok (.if_icmp .ge 15, 3) := by decide +kernel
theorem dX4_copy_8 : decode cX4_copy 8 = .ok (.aload_n 1, 1) := by decide +kernel
theorem dX4_copy_9 : decode cX4_copy 9 = .ok (.iload_n 2, 1) := by decide +kernel
theorem dX4_copy_10 : decode cX4_copy 10 = .ok (.aload_n 0, 1) := by decide +kernel
theorem dX4_copy_11 : decode cX4_copy 11 = .ok (.iload_n 2, 1) := by decide +kernel
theorem dX4_copy_12 : decode cX4_copy 12 = .ok (.iaload, 1) := by decide +kernel
theorem dX4_copy_13 : decode cX4_copy 13 = .ok (.iastore, 1) := by decide +kernel
theorem dX4_copy_14 : decode cX4_copy 14 = .ok (.iinc 2 1, 3) := by decide +kernel
theorem dX4_copy_17 : decode cX4_copy 17 = .ok (.goto (-15), 3) := by decide +kernel
theorem dX4_copy_20 : decode cX4_copy 20 = .ok (.return_, 1) := by decide +kernel
theorem dX4_common_0 : decode cX4_common 0 = .ok (.iload_n 0, 1) := by decide +kernel
theorem dX4_common_1 : decode cX4_common 1 = .ok (.istore_n 2, 1) := by decide +kernel
theorem dX4_common_2 : decode cX4_common 2 = .ok (.iload_n 1, 1) := by decide +kernel
theorem dX4_common_3 : decode cX4_common 3 = .ok (.istore_n 3, 1) := by decide +kernel
theorem dX4_common_4 : decode cX4_common 4 = .ok (.iload_n 3, 1) := by decide +kernel
theorem dX4_common_5 : decode cX4_common 5 = .ok (.ifCond .le 16, 3) := by decide +kernel
theorem dX4_common_8 : decode cX4_common 8 = .ok (.iload_n 2, 1) := by decide +kernel
theorem dX4_common_9 : decode cX4_common 9 = .ok (.iload_n 3, 1) := by decide +kernel
theorem dX4_common_10 : decode cX4_common 10 = .ok (.irem, 1) := by decide +kernel
theorem dX4_common_11 : decode cX4_common 11 = .ok (.istore 4, 2) := by decide +kernel
theorem dX4_common_13 : decode cX4_common 13 = .ok (.iload_n 3, 1) := by decide +kernel
theorem dX4_common_14 : decode cX4_common 14 = .ok (.istore_n 2, 1) := by decide +kernel
theorem dX4_common_15 : decode cX4_common 15 = .ok (.iload 4, 2) := by decide +kernel
theorem dX4_common_17 : decode cX4_common 17 = .ok (.istore_n 3, 1) := by decide +kernel
theorem dX4_common_18 : decode cX4_common 18 = .ok (.goto (-14), 3) := by decide +kernel
theorem dX4_common_21 : decode cX4_common 21 = .ok (.iload_n 2, 1) := by decide +kernel
theorem dX4_common_22 : decode cX4_common 22 = .ok (.ireturn, 1) := by decide +kernel
theorem dX4_letter_0 : decode cX4_letter 0 = .ok (.iload_n 1, 1) := by decide +kernel
theorem dX4_letter_1 : decode cX4_letter 1 = .ok (.i2l, 1) := by decide +kernel
theorem dX4_letter_2 : decode cX4_letter 2 = .ok (.lconst 1, 1) := by decide +kernel
theorem dX4_letter_3 : decode cX4_letter 3 = .ok (.ldc2_w 59, 3) := by decide +kernel
theorem dX4_letter_6 : decode cX4_letter 6 = .ok (.invokestatic 61, 3) := by decide +kernel
theorem dX4_letter_9 : decode cX4_letter 9 = .ok (.ifCond .ne 6, 3) := by decide +kernel
theorem dX4_letter_12 : decode cX4_letter 12 = .ok (.bipush (-102), 2) := by decide +kernel
theorem dX4_letter_14 : decode cX4_letter 14 = .ok (.ireturn, 1) := by decide +kernel
theorem dX4_letter_15 : decode cX4_letter 15 = .ok (.aload_n 0, 1) := by decide +kernel
theorem dX4_letter_16 : decode cX4_letter 16 = .ok (.getfield 65, 3) := by decide +kernel
theorem dX4_letter_19 : decode cX4_letter 19 = .ok (.bipush 22, 2) := by decide +kernel
theorem dX4_letter_21 : decode cX4_letter 21 = .ok (.if_icmp .ne 6, 3) := by decide +kernel
theorem dX4_letter_24 : decode cX4_letter 24 = .ok (.bipush (-104), 2) := by decide +kernel
theorem dX4_letter_26 : decode cX4_letter 26 = .ok (.ireturn, 1) := by decide +kernel
theorem dX4_letter_27 : decode cX4_letter 27 = .ok (.aload_n 0, 1) := by decide +kernel
theorem dX4_letter_28 : decode cX4_letter 28 = .ok (.getfield 7, 3) := by decide +kernel
theorem dX4_letter_31 : decode cX4_letter 31 = .ok (.aload_n 0, 1) := by decide +kernel
theorem dX4_letter_32 : decode cX4_letter 32 = .ok (.getfield 65, 3) := by decide +kernel
theorem dX4_letter_35 : decode cX4_letter 35 = .ok (.iload_n 1, 1) := by decide +kernel
theorem dX4_letter_36 : decode cX4_letter 36 = .ok (.iastore, 1) := by decide +kernel
theorem dX4_letter_37 : decode cX4_letter 37 = .ok (.aload_n 0, 1) := by decide +kernel
theorem dX4_letter_38 : decode cX4_letter 38 = .ok (.dup, 1) := by decide +kernel
theorem dX4_letter_39 : decode cX4_letter 39 = .ok (.getfield 65, 3) := by decide +kernel
theorem dX4_letter_42 : decode cX4_letter 42 = .ok (.iconst 1, 1) := by decide +kernel
theorem dX4_letter_43 : decode cX4_letter 43 = .ok (.iadd, 1) := by decide +kernel
theorem dX4_letter_44 : decode cX4_letter 44 = .ok (.putfield 65, 3) := by decide +kernel
theorem dX4_letter_47 : decode cX4_letter 47 = .ok (.aload_n 0, 1) := by decide +kernel
theorem dX4_letter_48 : decode cX4_letter 48 = .ok (.getfield 65, 3) := by decide +kernel
theorem dX4_letter_51 : decode cX4_letter 51 = .ok (.ireturn, 1) := by decide +kernel
theorem dX4_blank_0 : decode cX4_blank 0 = .ok (.aload_n 0, 1) := by decide +kernel
theorem dX4_blank_1 : decode cX4_blank 1 = .ok (.getfield 65, 3) := by decide +kernel
theorem dX4_blank_4 : decode cX4_blank 4 = .ok (.istore_n 1, 1) := by decide +kernel
theorem dX4_blank_5 : decode cX4_blank 5 = .ok (.aload_n 0, 1) := by decide +kernel
theorem dX4_blank_6 : decode cX4_blank 6 = .ok (.iconst 0, 1) := by decide +kernel
theorem dX4_blank_7 : decode cX4_blank 7 = .ok (.putfield 65, 3) := by decide +kernel
theorem dX4_blank_10 : decode cX4_blank 10 = .ok (.iload_n 1, 1) := by decide +kernel
theorem dX4_blank_11 : decode cX4_blank 11 = .ok (.ireturn, 1) := by decide +kernel
theorem dX4_kindBy_0 : decode cX4_kindBy 0 = .ok (.iload_n 0, 1) := by decide +kernel
theorem dX4_kindBy_1 : decode cX4_kindBy 1 = .ok (.lookupswitch 61 #[(99, 53), (100, 55), (111, 59), (115, 51), (116, 57)], 51) := by decide +kernel
theorem dX4_kindBy_52 : decode cX4_kindBy 52 = .ok (.iconst 0, 1) := by decide +kernel
theorem dX4_kindBy_53 : decode cX4_kindBy 53 = .ok (.ireturn, 1) := by decide +kernel
theorem dX4_kindBy_54 : decode cX4_kindBy 54 = .ok (.iconst 1, 1) := by decide +kernel
theorem dX4_kindBy_55 : decode cX4_kindBy 55 = .ok (.ireturn, 1) := by decide +kernel
theorem dX4_kindBy_56 : decode cX4_kindBy 56 = .ok (.iconst 2, 1) := by decide +kernel
theorem dX4_kindBy_57 : decode cX4_kindBy 57 = .ok (.ireturn, 1) := by decide +kernel
theorem dX4_kindBy_58 : decode cX4_kindBy 58 = .ok (.iconst 3, 1) := by decide +kernel
theorem dX4_kindBy_59 : decode cX4_kindBy 59 = .ok (.ireturn, 1) := by decide +kernel
theorem dX4_kindBy_60 : decode cX4_kindBy 60 = .ok (.iconst 4, 1) := by decide +kernel
theorem dX4_kindBy_61 : decode cX4_kindBy 61 = .ok (.ireturn, 1) := by decide +kernel
theorem dX4_kindBy_62 : decode cX4_kindBy 62 = .ok (.iconst (-1), 1) := by decide +kernel
theorem dX4_kindBy_63 : decode cX4_kindBy 63 = .ok (.ireturn, 1) := by decide +kernel
theorem dX4_isGood_0 : decode cX4_isGood 0 = .ok (.aload_n 0, 1) := by decide +kernel
theorem dX4_isGood_1 : decode cX4_isGood 1 = .ok (.getfield 7, 3) := by decide +kernel
theorem dX4_isGood_4 : decode cX4_isGood 4 = .ok (.iload_n 1, 1) := by decide +kernel
theorem dX4_isGood_5 : decode cX4_isGood 5 = .ok (.iaload, 1) := by decide +kernel
theorem dX4_isGood_6 : decode cX4_isGood 6 = .ok (.istore_n 2, 1) := by decide +kernel
theorem dX4_isGood_7 : decode cX4_isGood 7 = .ok (.iload_n 1, 1) := by decide +kernel
theorem dX4_isGood_8 : decode cX4_isGood 8 = .ok (.tableswitch 95 0 2 #[28, 46, 83], 28) := by decide +kernel
theorem dX4_isGood_36 : decode cX4_isGood 36 = .ok (.iload_n 2, 1) := by decide +kernel
theorem dX4_isGood_37 : decode cX4_isGood 37 = .ok (.bipush 48, 2) := by decide +kernel
theorem dX4_isGood_39 : decode cX4_isGood 39 = .ok (.if_icmp .eq 9, 3) := by decide +kernel
theorem dX4_isGood_42 : decode cX4_isGood 42 = .ok (.iload_n 2, 1) := by decide +kernel
theorem dX4_isGood_43 : decode cX4_isGood 43 = .ok (.bipush 49, 2) := by decide +kernel
theorem dX4_isGood_45 : decode cX4_isGood 45 = .ok (.if_icmp .ne 7, 3) := by decide +kernel
theorem dX4_isGood_48 : decode cX4_isGood 48 = .ok (.iconst 1, 1) := by decide +kernel
theorem dX4_isGood_49 : decode cX4_isGood 49 = .ok (.goto 4, 3) := by decide +kernel
theorem dX4_isGood_52 : decode cX4_isGood 52 = .ok (.iconst 0, 1) := by decide +kernel
theorem dX4_isGood_53 : decode cX4_isGood 53 = .ok (.ireturn, 1) := by decide +kernel
theorem dX4_isGood_54 : decode cX4_isGood 54 = .ok (.aload_n 0, 1) := by decide +kernel
theorem dX4_isGood_55 : decode cX4_isGood 55 = .ok (.getfield 7, 3) := by decide +kernel
theorem dX4_isGood_58 : decode cX4_isGood 58 = .ok (.iconst 0, 1) := by decide +kernel
theorem dX4_isGood_59 : decode cX4_isGood 59 = .ok (.iaload, 1) := by decide +kernel
theorem dX4_isGood_60 : decode cX4_isGood 60 = .ok (.bipush 48, 2) := by decide +kernel
theorem dX4_isGood_62 : decode cX4_isGood 62 = .ok (.if_icmp .ne 17, 3) := by decide +kernel
theorem dX4_isGood_65 : decode cX4_isGood 65 = .ok (.iload_n 2, 1) := by decide +kernel
theorem dX4_isGood_66 : decode cX4_isGood 66 = .ok (.i2l, 1) := by decide +kernel
theorem dX4_isGood_67 : decode cX4_isGood 67 = .ok (.ldc2_w 68, 3) := by decide +kernel
theorem dX4_isGood_70 : decode cX4_isGood 70 = .ok (.ldc2_w 70, 3) := by decide +kernel
theorem dX4_isGood_73 : decode cX4_isGood 73 = .ok (.invokestatic 61, 3) := by decide +kernel
theorem dX4_isGood_76 : decode cX4_isGood 76 = .ok (.goto 14, 3) := by decide +kernel
theorem dX4_isGood_79 : decode cX4_isGood 79 = .ok (.iload_n 2, 1) := by decide +kernel
theorem dX4_isGood_80 : decode cX4_isGood 80 = .ok (.i2l, 1) := by decide +kernel
theorem dX4_isGood_81 : decode cX4_isGood 81 = .ok (.ldc2_w 72, 3) := by decide +kernel
theorem dX4_isGood_84 : decode cX4_isGood 84 = .ok (.ldc2_w 68, 3) := by decide +kernel
theorem dX4_isGood_87 : decode cX4_isGood 87 = .ok (.invokestatic 61, 3) := by decide +kernel
theorem dX4_isGood_90 : decode cX4_isGood 90 = .ok (.ireturn, 1) := by decide +kernel
theorem dX4_isGood_91 : decode cX4_isGood 91 = .ok (.iload_n 2, 1) := by decide +kernel
theorem dX4_isGood_92 : decode cX4_isGood 92 = .ok (.bipush 59, 2) := by decide +kernel
theorem dX4_isGood_94 : decode cX4_isGood 94 = .ok (.if_icmp .ne 7, 3) := by decide +kernel
theorem dX4_isGood_97 : decode cX4_isGood 97 = .ok (.iconst 1, 1) := by decide +kernel
theorem dX4_isGood_98 : decode cX4_isGood 98 = .ok (.goto 4, 3) := by decide +kernel
theorem dX4_isGood_101 : decode cX4_isGood 101 = .ok (.iconst 0, 1) := by decide +kernel
theorem dX4_isGood_102 : decode cX4_isGood 102 = .ok (.ireturn, 1) := by decide +kernel
theorem dX4_isGood_103 : decode cX4_isGood 103 = .ok (.iload_n 1, 1) := by decide +kernel
theorem dX4_isGood_104 : decode cX4_isGood 104 = .ok (.iconst 3, 1) := by decide +kernel
theorem dX4_isGood_105 : decode cX4_isGood 105 = .ok (.irem, 1) := by decide +kernel
theorem dX4_isGood_106 : decode cX4_isGood 106 = .ok (.lookupswitch 52 #[(0, 26), (1, 40)], 26) := by decide +kernel
theorem dX4_isGood_132 : decode cX4_isGood 132 = .ok (.iload_n 2, 1) := by decide +kernel
theorem dX4_isGood_133 : decode cX4_isGood 133 = .ok (.invokestatic 74, 3) := by decide +kernel
theorem dX4_isGood_136 : decode cX4_isGood 136 = .ok (.iconst (-1), 1) := by decide +kernel
theorem dX4_isGood_137 : decode cX4_isGood 137 = .ok (.if_icmp .eq 7, 3) := by decide +kernel
theorem dX4_isGood_140 : decode cX4_isGood 140 = .ok (.iconst 1, 1) := by decide +kernel
theorem dX4_isGood_141 : decode cX4_isGood 141 = .ok (.goto 4, 3) := by decide +kernel
theorem dX4_isGood_144 : decode cX4_isGood 144 = .ok (.iconst 0, 1) := by decide +kernel
theorem dX4_isGood_145 : decode cX4_isGood 145 = .ok (.ireturn, 1) := by decide +kernel
theorem dX4_isGood_146 : decode cX4_isGood 146 = .ok (.iload_n 2, 1) := by decide +kernel
theorem dX4_isGood_147 : decode cX4_isGood 147 = .ok (.i2l, 1) := by decide +kernel
theorem dX4_isGood_148 : decode cX4_isGood 148 = .ok (.ldc2_w 72, 3) := by decide +kernel
theorem dX4_isGood_151 : decode cX4_isGood 151 = .ok (.ldc2_w 70, 3) := by decide +kernel
theorem dX4_isGood_154 : decode cX4_isGood 154 = .ok (.invokestatic 61, 3) := by decide +kernel
theorem dX4_isGood_157 : decode cX4_isGood 157 = .ok (.ireturn, 1) := by decide +kernel
theorem dX4_isGood_158 : decode cX4_isGood 158 = .ok (.iload_n 2, 1) := by decide +kernel
theorem dX4_isGood_159 : decode cX4_isGood 159 = .ok (.bipush 44, 2) := by decide +kernel
theorem dX4_isGood_161 : decode cX4_isGood 161 = .ok (.if_icmp .ne 13, 3) := by decide +kernel
theorem dX4_isGood_164 : decode cX4_isGood 164 = .ok (.iload_n 1, 1) := by decide +kernel
theorem dX4_isGood_165 : decode cX4_isGood 165 = .ok (.bipush 20, 2) := by decide +kernel
theorem dX4_isGood_167 : decode cX4_isGood 167 = .ok (.if_icmp .ge 7, 3) := by decide +kernel
theorem dX4_isGood_170 : decode cX4_isGood 170 = .ok (.iconst 1, 1) := by decide +kernel
theorem dX4_isGood_171 : decode cX4_isGood 171 = .ok (.goto 4, 3) := by decide +kernel
theorem dX4_isGood_174 : decode cX4_isGood 174 = .ok (.iconst 0, 1) := by decide +kernel
theorem dX4_isGood_175 : decode cX4_isGood 175 = .ok (.ireturn, 1) := by decide +kernel
theorem dX4_faultOf_0 : decode cX4_faultOf 0 = .ok (.iconst 0, 1) := by decide +kernel
theorem dX4_faultOf_1 : decode cX4_faultOf 1 = .ok (.istore_n 1, 1) := by decide +kernel
theorem dX4_faultOf_2 : decode cX4_faultOf 2 = .ok (.iload_n 1, 1) := by decide +kernel
theorem dX4_faultOf_3 : decode cX4_faultOf 3 = .ok (.aload_n 0, 1) := by decide +kernel
theorem dX4_faultOf_4 : decode cX4_faultOf 4 = .ok (.getfield 65, 3) := by decide +kernel
theorem dX4_faultOf_7 : decode cX4_faultOf 7 = .ok (.if_icmp .ge 17, 3) := by decide +kernel
theorem dX4_faultOf_10 : decode cX4_faultOf 10 = .ok (.aload_n 0, 1) := by decide +kernel
theorem dX4_faultOf_11 : decode cX4_faultOf 11 = .ok (.iload_n 1, 1) := by decide +kernel
theorem dX4_faultOf_12 : decode cX4_faultOf 12 = .ok (.invokevirtual 78, 3) := by decide +kernel
theorem dX4_faultOf_15 : decode cX4_faultOf 15 = .ok (.ifCond .eq 9, 3) := by decide +kernel
theorem dX4_faultOf_18 : decode cX4_faultOf 18 = .ok (.iinc 1 1, 3) := by decide +kernel
theorem dX4_faultOf_21 : decode cX4_faultOf 21 = .ok (.goto (-19), 3) := by decide +kernel
theorem dX4_faultOf_24 : decode cX4_faultOf 24 = .ok (.iload_n 1, 1) := by decide +kernel
theorem dX4_faultOf_25 : decode cX4_faultOf 25 = .ok (.ireturn, 1) := by decide +kernel
theorem dX4_fault_0 : decode cX4_fault 0 = .ok (.aload_n 0, 1) := by decide +kernel
theorem dX4_fault_1 : decode cX4_fault 1 = .ok (.invokevirtual 82, 3) := by decide +kernel
theorem dX4_fault_4 : decode cX4_fault 4 = .ok (.ireturn, 1) := by decide +kernel
theorem dX4_routine_0 : decode cX4_routine 0 = .ok (.aload_n 0, 1) := by decide +kernel
theorem dX4_routine_1 : decode cX4_routine 1 = .ok (.getfield 65, 3) := by decide +kernel
theorem dX4_routine_4 : decode cX4_routine 4 = .ok (.iconst 5, 1) := by decide +kernel
theorem dX4_routine_5 : decode cX4_routine 5 = .ok (.if_icmp .lt 24, 3) := by decide +kernel
theorem dX4_routine_8 : decode cX4_routine 8 = .ok (.aload_n 0, 1) := by decide +kernel
theorem dX4_routine_9 : decode cX4_routine 9 = .ok (.getfield 65, 3) := by decide +kernel
theorem dX4_routine_12 : decode cX4_routine 12 = .ok (.iconst 3, 1) := by decide +kernel
theorem dX4_routine_13 : decode cX4_routine 13 = .ok (.irem, 1) := by decide +kernel
theorem dX4_routine_14 : decode cX4_routine 14 = .ok (.iconst 2, 1) := by decide +kernel
theorem dX4_routine_15 : decode cX4_routine 15 = .ok (.if_icmp .ne 14, 3) := by decide +kernel
theorem dX4_routine_18 : decode cX4_routine 18 = .ok (.aload_n 0, 1) := by decide +kernel
theorem dX4_routine_19 : decode cX4_routine 19 = .ok (.invokevirtual 82, 3) := by decide +kernel
theorem dX4_routine_22 : decode cX4_routine 22 = .ok (.aload_n 0, 1) := by decide +kernel
theorem dX4_routine_23 : decode cX4_routine 23 = .ok (.getfield 65, 3) := by decide +kernel
theorem dX4_routine_26 : decode cX4_routine 26 = .ok (.if_icmp .ge 6, 3) := by decide +kernel
theorem dX4_routine_29 : decode cX4_routine 29 = .ok (.bipush (-103), 2) := by decide +kernel
theorem dX4_routine_31 : decode cX4_routine 31 = .ok (.ireturn, 1) := by decide +kernel
theorem dX4_routine_32 : decode cX4_routine 32 = .ok (.aload_n 0, 1) := by decide +kernel
theorem dX4_routine_33 : decode cX4_routine 33 = .ok (.bipush 10, 2) := by decide +kernel
theorem dX4_routine_35 : decode cX4_routine 35 = .ok (.aload_n 0, 1) := by decide +kernel
theorem dX4_routine_36 : decode cX4_routine 36 = .ok (.getfield 7, 3) := by decide +kernel
theorem dX4_routine_39 : decode cX4_routine 39 = .ok (.iconst 0, 1) := by decide +kernel
theorem dX4_routine_40 : decode cX4_routine 40 = .ok (.iaload, 1) := by decide +kernel
theorem dX4_routine_41 : decode cX4_routine 41 = .ok (.bipush 48, 2) := by decide +kernel
theorem dX4_routine_43 : decode cX4_routine 43 = .ok (.isub, 1) := by decide +kernel
theorem dX4_routine_44 : decode cX4_routine 44 = .ok (.imul, 1) := by decide +kernel
theorem dX4_routine_45 : decode cX4_routine 45 = .ok (.aload_n 0, 1) := by decide +kernel
theorem dX4_routine_46 : decode cX4_routine 46 = .ok (.getfield 7, 3) := by decide +kernel
theorem dX4_routine_49 : decode cX4_routine 49 = .ok (.iconst 1, 1) := by decide +kernel
theorem dX4_routine_50 : decode cX4_routine 50 = .ok (.iaload, 1) := by decide +kernel
theorem dX4_routine_51 : decode cX4_routine 51 = .ok (.iadd, 1) := by decide +kernel
theorem dX4_routine_52 : decode cX4_routine 52 = .ok (.bipush 48, 2) := by decide +kernel
theorem dX4_routine_54 : decode cX4_routine 54 = .ok (.isub, 1) := by decide +kernel
theorem dX4_routine_55 : decode cX4_routine 55 = .ok (.putfield 86, 3) := by decide +kernel
theorem dX4_routine_58 : decode cX4_routine 58 = .ok (.aload_n 0, 1) := by decide +kernel
theorem dX4_routine_59 : decode cX4_routine 59 = .ok (.aload_n 0, 1) := by decide +kernel
theorem dX4_routine_60 : decode cX4_routine 60 = .ok (.getfield 65, 3) := by decide +kernel
theorem dX4_routine_63 : decode cX4_routine 63 = .ok (.iconst 2, 1) := by decide +kernel
theorem dX4_routine_64 : decode cX4_routine 64 = .ok (.isub, 1) := by decide +kernel
theorem dX4_routine_65 : decode cX4_routine 65 = .ok (.iconst 3, 1) := by decide +kernel
theorem dX4_routine_66 : decode cX4_routine 66 = .ok (.idiv, 1) := by decide +kernel
theorem dX4_routine_67 : decode cX4_routine 67 = .ok (.putfield 89, 3) := by decide +kernel
theorem dX4_routine_70 : decode cX4_routine 70 = .ok (.iconst 0, 1) := by decide +kernel
theorem dX4_routine_71 : decode cX4_routine 71 = .ok (.istore_n 1, 1) := by decide +kernel
theorem dX4_routine_72 : decode cX4_routine 72 = .ok (.iload_n 1, 1) := by decide +kernel
theorem dX4_routine_73 : decode cX4_routine 73 = .ok (.aload_n 0, 1) := by decide +kernel
theorem dX4_routine_74 : decode cX4_routine 74 = .ok (.getfield 89, 3) := by decide +kernel
theorem dX4_routine_77 : decode cX4_routine 77 = .ok (.if_icmp .ge 47, 3) := by decide +kernel
theorem dX4_routine_80 : decode cX4_routine 80 = .ok (.aload_n 0, 1) := by decide +kernel
theorem dX4_routine_81 : decode cX4_routine 81 = .ok (.getfield 13, 3) := by decide +kernel
theorem dX4_routine_84 : decode cX4_routine 84 = .ok (.iload_n 1, 1) := by decide +kernel
theorem dX4_routine_85 : decode cX4_routine 85 = .ok (.aload_n 0, 1) := by decide +kernel
theorem dX4_routine_86 : decode cX4_routine 86 = .ok (.getfield 7, 3) := by decide +kernel
theorem dX4_routine_89 : decode cX4_routine 89 = .ok (.iconst 3, 1) := by decide +kernel
theorem dX4_routine_90 : decode cX4_routine 90 = .ok (.iconst 3, 1) := by decide +kernel
theorem dX4_routine_91 : decode cX4_routine 91 = .ok (.iload_n 1, 1) := by decide +kernel
theorem dX4_routine_92 : decode cX4_routine 92 = .ok (.imul, 1) := by decide +kernel
theorem dX4_routine_93 : decode cX4_routine 93 = .ok (.iadd, 1) := by decide +kernel
theorem dX4_routine_94 : decode cX4_routine 94 = .ok (.iaload, 1) := by decide +kernel
theorem dX4_routine_95 : decode cX4_routine 95 = .ok (.invokestatic 74, 3) := by decide +kernel
theorem dX4_routine_98 : decode cX4_routine 98 = .ok (.iastore, 1) := by decide +kernel
theorem dX4_routine_99 : decode cX4_routine 99 = .ok (.aload_n 0, 1) := by decide +kernel
theorem dX4_routine_100 : decode cX4_routine 100 = .ok (.getfield 16, 3) := by decide +kernel
theorem dX4_routine_103 : decode cX4_routine 103 = .ok (.iload_n 1, 1) := by decide +kernel
theorem dX4_routine_104 : decode cX4_routine 104 = .ok (.aload_n 0, 1) := by decide +kernel
theorem dX4_routine_105 : decode cX4_routine 105 = .ok (.getfield 7, 3) := by decide +kernel
theorem dX4_routine_108 : decode cX4_routine 108 = .ok (.iconst 4, 1) := by decide +kernel
theorem dX4_routine_109 : decode cX4_routine 109 = .ok (.iconst 3, 1) := by decide +kernel
theorem dX4_routine_110 : decode cX4_routine 110 = .ok (.iload_n 1, 1) := by decide +kernel
theorem dX4_routine_111 : decode cX4_routine 111 = .ok (.imul, 1) := by decide +kernel
theorem dX4_routine_112 : decode cX4_routine 112 = .ok (.iadd, 1) := by decide +kernel
theorem dX4_routine_113 : decode cX4_routine 113 = .ok (.iaload, 1) := by decide +kernel
theorem dX4_routine_114 : decode cX4_routine 114 = .ok (.bipush 48, 2) := by decide +kernel
theorem dX4_routine_116 : decode cX4_routine 116 = .ok (.isub, 1) := by decide +kernel
theorem dX4_routine_117 : decode cX4_routine 117 = .ok (.iastore, 1) := by decide +kernel
theorem dX4_routine_118 : decode cX4_routine 118 = .ok (.iinc 1 1, 3) := by decide +kernel
theorem dX4_routine_121 : decode cX4_routine 121 = .ok (.goto (-49), 3) := by decide +kernel
theorem dX4_routine_124 : decode cX4_routine 124 = .ok (.aload_n 0, 1) := by decide +kernel
theorem dX4_routine_125 : decode cX4_routine 125 = .ok (.invokevirtual 92, 3) := by decide +kernel
theorem dX4_routine_128 : decode cX4_routine 128 = .ok (.aload_n 0, 1) := by decide +kernel
theorem dX4_routine_129 : decode cX4_routine 129 = .ok (.iconst 0, 1) := by decide +kernel
theorem dX4_routine_130 : decode cX4_routine 130 = .ok (.putfield 95, 3) := by decide +kernel
theorem dX4_routine_133 : decode cX4_routine 133 = .ok (.aload_n 0, 1) := by decide +kernel
theorem dX4_routine_134 : decode cX4_routine 134 = .ok (.iconst 0, 1) := by decide +kernel
theorem dX4_routine_135 : decode cX4_routine 135 = .ok (.putfield 98, 3) := by decide +kernel
theorem dX4_routine_138 : decode cX4_routine 138 = .ok (.aload_n 0, 1) := by decide +kernel
theorem dX4_routine_139 : decode cX4_routine 139 = .ok (.dup, 1) := by decide +kernel
theorem dX4_routine_140 : decode cX4_routine 140 = .ok (.getfield 101, 3) := by decide +kernel
theorem dX4_routine_143 : decode cX4_routine 143 = .ok (.iconst 1, 1) := by decide +kernel
theorem dX4_routine_144 : decode cX4_routine 144 = .ok (.iadd, 1) := by decide +kernel
theorem dX4_routine_145 : decode cX4_routine 145 = .ok (.putfield 101, 3) := by decide +kernel
theorem dX4_routine_148 : decode cX4_routine 148 = .ok (.aload_n 0, 1) := by decide +kernel
theorem dX4_routine_149 : decode cX4_routine 149 = .ok (.iconst 0, 1) := by decide +kernel
theorem dX4_routine_150 : decode cX4_routine 150 = .ok (.putfield 65, 3) := by decide +kernel
theorem dX4_routine_153 : decode cX4_routine 153 = .ok (.aload_n 0, 1) := by decide +kernel
theorem dX4_routine_154 : decode cX4_routine 154 = .ok (.getfield 89, 3) := by decide +kernel
theorem dX4_routine_157 : decode cX4_routine 157 = .ok (.ireturn, 1) := by decide +kernel
theorem dX4_layFirst_0 : decode cX4_layFirst 0 = .ok (.iconst 0, 1) := by decide +kernel
theorem dX4_layFirst_1 : decode cX4_layFirst 1 = .ok (.istore_n 1, 1) := by decide +kernel
theorem dX4_layFirst_2 : decode cX4_layFirst 2 = .ok (.iload_n 1, 1) := by decide +kernel
theorem dX4_layFirst_3 : decode cX4_layFirst 3 = .ok (.aload_n 0, 1) := by decide +kernel
theorem dX4_layFirst_4 : decode cX4_layFirst 4 = .ok (.getfield 86, 3) := by decide +kernel
theorem dX4_layFirst_7 : decode cX4_layFirst 7 = .ok (.if_icmp .ge 16, 3) := by decide +kernel
theorem dX4_layFirst_10 : decode cX4_layFirst 10 = .ok (.aload_n 0, 1) := by decide +kernel
theorem dX4_layFirst_11 : decode cX4_layFirst 11 = .ok (.getfield 19, 3) := by decide +kernel
theorem dX4_layFirst_14 : decode cX4_layFirst 14 = .ok (.iload_n 1, 1) := by decide +kernel
theorem dX4_layFirst_15 : decode cX4_layFirst 15 = .ok (.iload_n 1, 1) := by decide +kernel
theorem dX4_layFirst_16 : decode cX4_layFirst 16 = .ok (.iastore, 1) := by decide +kernel
theorem dX4_layFirst_17 : decode cX4_layFirst 17 = .ok (.iinc 1 1, 3) := by decide +kernel
theorem dX4_layFirst_20 : decode cX4_layFirst 20 = .ok (.goto (-18), 3) := by decide +kernel
theorem dX4_layFirst_23 : decode cX4_layFirst 23 = .ok (.return_, 1) := by decide +kernel
theorem dX4_lacks_0 : decode cX4_lacks 0 = .ok (.aload_n 0, 1) := by decide +kernel
theorem dX4_lacks_1 : decode cX4_lacks 1 = .ok (.getfield 89, 3) := by decide +kernel
theorem dX4_lacks_4 : decode cX4_lacks 4 = .ok (.ifCond .ne 7, 3) := by decide +kernel
theorem dX4_lacks_7 : decode cX4_lacks 7 = .ok (.iconst 1, 1) := by decide +kernel
theorem dX4_lacks_8 : decode cX4_lacks 8 = .ok (.goto 4, 3) := by decide +kernel
theorem dX4_lacks_11 : decode cX4_lacks 11 = .ok (.iconst 0, 1) := by decide +kernel
theorem dX4_lacks_12 : decode cX4_lacks 12 = .ok (.ireturn, 1) := by decide +kernel
theorem dX4_isStep_0 : decode cX4_isStep 0 = .ok (.iload_n 1, 1) := by decide +kernel
theorem dX4_isStep_1 : decode cX4_isStep 1 = .ok (.i2l, 1) := by decide +kernel
theorem dX4_isStep_2 : decode cX4_isStep 2 = .ok (.lconst 0, 1) := by decide +kernel
theorem dX4_isStep_3 : decode cX4_isStep 3 = .ok (.aload_n 0, 1) := by decide +kernel
theorem dX4_isStep_4 : decode cX4_isStep 4 = .ok (.getfield 89, 3) := by decide +kernel
theorem dX4_isStep_7 : decode cX4_isStep 7 = .ok (.iconst 1, 1) := by decide +kernel
theorem dX4_isStep_8 : decode cX4_isStep 8 = .ok (.isub, 1) := by decide +kernel
theorem dX4_isStep_9 : decode cX4_isStep 9 = .ok (.i2l, 1) := by decide +kernel
theorem dX4_isStep_10 : decode cX4_isStep 10 = .ok (.invokestatic 61, 3) := by decide +kernel
theorem dX4_isStep_13 : decode cX4_isStep 13 = .ok (.ireturn, 1) := by decide +kernel
theorem dX4_isPlace_0 : decode cX4_isPlace 0 = .ok (.iload_n 1, 1) := by decide +kernel
theorem dX4_isPlace_1 : decode cX4_isPlace 1 = .ok (.i2l, 1) := by decide +kernel
theorem dX4_isPlace_2 : decode cX4_isPlace 2 = .ok (.lconst 0, 1) := by decide +kernel
theorem dX4_isPlace_3 : decode cX4_isPlace 3 = .ok (.aload_n 0, 1) := by decide +kernel
theorem dX4_isPlace_4 : decode cX4_isPlace 4 = .ok (.getfield 86, 3) := by decide +kernel
theorem dX4_isPlace_7 : decode cX4_isPlace 7 = .ok (.iconst 1, 1) := by decide +kernel
theorem dX4_isPlace_8 : decode cX4_isPlace 8 = .ok (.isub, 1) := by decide +kernel
theorem dX4_isPlace_9 : decode cX4_isPlace 9 = .ok (.i2l, 1) := by decide +kernel
theorem dX4_isPlace_10 : decode cX4_isPlace 10 = .ok (.invokestatic 61, 3) := by decide +kernel
theorem dX4_isPlace_13 : decode cX4_isPlace 13 = .ok (.ireturn, 1) := by decide +kernel
theorem dX4_byStep_0 : decode cX4_byStep 0 = .ok (.iload_n 1, 1) := by decide +kernel
theorem dX4_byStep_1 : decode cX4_byStep 1 = .ok (.aload_n 0, 1) := by decide +kernel
theorem dX4_byStep_2 : decode cX4_byStep 2 = .ok (.getfield 86, 3) := by decide +kernel
theorem dX4_byStep_5 : decode cX4_byStep 5 = .ok (.if_icmp .ge 7, 3) := by decide +kernel
theorem dX4_byStep_8 : decode cX4_byStep 8 = .ok (.iload_n 1, 1) := by decide +kernel
theorem dX4_byStep_9 : decode cX4_byStep 9 = .ok (.goto 9, 3) := by decide +kernel
theorem dX4_byStep_12 : decode cX4_byStep 12 = .ok (.aload_n 0, 1) := by decide +kernel
theorem dX4_byStep_13 : decode cX4_byStep 13 = .ok (.getfield 86, 3) := by decide +kernel
theorem dX4_byStep_16 : decode cX4_byStep 16 = .ok (.iconst 1, 1) := by decide +kernel
theorem dX4_byStep_17 : decode cX4_byStep 17 = .ok (.isub, 1) := by decide +kernel
theorem dX4_byStep_18 : decode cX4_byStep 18 = .ok (.istore_n 3, 1) := by decide +kernel
theorem dX4_byStep_19 : decode cX4_byStep 19 = .ok (.iload_n 2, 1) := by decide +kernel
theorem dX4_byStep_20 : decode cX4_byStep 20 = .ok (.ifCond .ne 7, 3) := by decide +kernel
theorem dX4_byStep_23 : decode cX4_byStep 23 = .ok (.iload_n 3, 1) := by decide +kernel
theorem dX4_byStep_24 : decode cX4_byStep 24 = .ok (.goto 15, 3) := by decide +kernel
theorem dX4_byStep_27 : decode cX4_byStep 27 = .ok (.iload_n 2, 1) := by decide +kernel
theorem dX4_byStep_28 : decode cX4_byStep 28 = .ok (.iload_n 3, 1) := by decide +kernel
theorem dX4_byStep_29 : decode cX4_byStep 29 = .ok (.if_icmp .gt 9, 3) := by decide +kernel
theorem dX4_byStep_32 : decode cX4_byStep 32 = .ok (.iload_n 2, 1) := by decide +kernel
theorem dX4_byStep_33 : decode cX4_byStep 33 = .ok (.iconst 1, 1) := by decide +kernel
theorem dX4_byStep_34 : decode cX4_byStep 34 = .ok (.isub, 1) := by decide +kernel
theorem dX4_byStep_35 : decode cX4_byStep 35 = .ok (.goto 4, 3) := by decide +kernel
theorem dX4_byStep_38 : decode cX4_byStep 38 = .ok (.iload_n 2, 1) := by decide +kernel
theorem dX4_byStep_39 : decode cX4_byStep 39 = .ok (.ireturn, 1) := by decide +kernel
theorem dX4_pileOf_0 : decode cX4_pileOf 0 = .ok (.aload_n 0, 1) := by decide +kernel
theorem dX4_pileOf_1 : decode cX4_pileOf 1 = .ok (.getfield 86, 3) := by decide +kernel
theorem dX4_pileOf_4 : decode cX4_pileOf 4 = .ok (.iload_n 2, 1) := by decide +kernel
theorem dX4_pileOf_5 : decode cX4_pileOf 5 = .ok (.isub, 1) := by decide +kernel
theorem dX4_pileOf_6 : decode cX4_pileOf 6 = .ok (.iload_n 1, 1) := by decide +kernel
theorem dX4_pileOf_7 : decode cX4_pileOf 7 = .ok (.iadd, 1) := by decide +kernel
theorem dX4_pileOf_8 : decode cX4_pileOf 8 = .ok (.iconst 1, 1) := by decide +kernel
theorem dX4_pileOf_9 : decode cX4_pileOf 9 = .ok (.isub, 1) := by decide +kernel
theorem dX4_pileOf_10 : decode cX4_pileOf 10 = .ok (.iload_n 1, 1) := by decide +kernel
theorem dX4_pileOf_11 : decode cX4_pileOf 11 = .ok (.idiv, 1) := by decide +kernel
theorem dX4_pileOf_12 : decode cX4_pileOf 12 = .ok (.ireturn, 1) := by decide +kernel
theorem dX4_byDeal_0 : decode cX4_byDeal 0 = .ok (.iload_n 1, 1) := by decide +kernel
theorem dX4_byDeal_1 : decode cX4_byDeal 1 = .ok (.ifCond .ne 7, 3) := by decide +kernel
theorem dX4_byDeal_4 : decode cX4_byDeal 4 = .ok (.iconst 1, 1) := by decide +kernel
theorem dX4_byDeal_5 : decode cX4_byDeal 5 = .ok (.goto 19, 3) := by decide +kernel
theorem dX4_byDeal_8 : decode cX4_byDeal 8 = .ok (.iload_n 1, 1) := by decide +kernel
theorem dX4_byDeal_9 : decode cX4_byDeal 9 = .ok (.aload_n 0, 1) := by decide +kernel
