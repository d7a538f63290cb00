theorem dX0_init_0 : decode cX0_init 0 = .ok (.aload_n 0, 1) := by decide +kernel
theorem dX0_init_1 : decode cX0_init 1 = .ok (.invokespecial 5, 3) := by decide +kernel
theorem dX0_init_4 : decode cX0_init 4 = .ok (.aload_n 0, 1) := by decide +kernel
theorem dX0_init_5 : decode cX0_init 5 = .ok (.bipush 22, 2) := by decide +kernel
theorem dX0_init_7 : decode cX0_init 7 = .ok (.newarray .int, 2) := by decide +kernel
theorem dX0_init_9 : decode cX0_init 9 = .ok (.putfield 11, 3) := by decide +kernel
theorem dX0_init_12 : decode cX0_init 12 = .ok (.return_, 1) := by decide +kernel
theorem dX0_append_0 : decode cX0_append 0 = .ok (.aload_n 0, 1) := by decide +kernel
theorem dX0_append_1 : decode cX0_append 1 = .ok (.getfield 15, 3) := by decide +kernel
theorem dX0_append_4 : decode cX0_append 4 = .ok (.bipush 22, 2) := by decide +kernel
theorem dX0_append_6 : decode cX0_append 6 = .ok (.if_icmp .ge 23, 3) := by decide +kernel
theorem dX0_append_9 : decode cX0_append 9 = .ok (.aload_n 0, 1) := by decide +kernel
theorem dX0_append_10 : decode cX0_append 10 = .ok (.getfield 11, 3) := by decide +kernel
theorem dX0_append_13 : decode cX0_append 13 = .ok (.aload_n 0, 1) := by decide +kernel
theorem dX0_append_14 : decode cX0_append 14 = .ok (.getfield 15, 3) := by decide +kernel
theorem dX0_append_17 : decode cX0_append 17 = .ok (.iload_n 1, 1) := by decide +kernel
theorem dX0_append_18 : decode cX0_append 18 = .ok (.iastore, 1) := by decide +kernel
theorem dX0_append_19 : decode cX0_append 19 = .ok (.aload_n 0, 1) := by decide +kernel
theorem dX0_append_20 : decode cX0_append 20 = .ok (.dup, 1) := by decide +kernel
theorem dX0_append_21 : decode cX0_append 21 = .ok (.getfield 15, 3) := by decide +kernel
theorem dX0_append_24 : decode cX0_append 24 = .ok (.iconst 1, 1) := by decide +kernel
theorem dX0_append_25 : decode cX0_append 25 = .ok (.iadd, 1) := by decide +kernel
theorem dX0_append_26 : decode cX0_append 26 = .ok (.putfield 15, 3) := by decide +kernel
theorem dX0_append_29 : decode cX0_append 29 = .ok (.return_, 1) := by decide +kernel
theorem dX0_clear_0 : decode cX0_clear 0 = .ok (.aload_n 0, 1) := by decide +kernel
theorem dX0_clear_1 : decode cX0_clear 1 = .ok (.getfield 15, 3) := by decide +kernel
theorem dX0_clear_4 : decode cX0_clear 4 = .ok (.istore_n 1, 1) := by decide +kernel
theorem dX0_clear_5 : decode cX0_clear 5 = .ok (.aload_n 0, 1) := by decide +kernel
theorem dX0_clear_6 : decode cX0_clear 6 = .ok (.iconst 0, 1) := by decide +kernel
theorem dX0_clear_7 : decode cX0_clear 7 = .ok (.putfield 15, 3) := by decide +kernel
theorem dX0_clear_10 : decode cX0_clear 10 = .ok (.iload_n 1, 1) := by decide +kernel
theorem dX0_clear_11 : decode cX0_clear 11 = .ok (.ireturn, 1) := by decide +kernel
theorem dX0_firstWrong_0 : decode cX0_firstWrong 0 = .ok (.iconst 0, 1) := by decide +kernel
theorem dX0_firstWrong_1 : decode cX0_firstWrong 1 = .ok (.istore_n 1, 1) := by decide +kernel
theorem dX0_firstWrong_2 : decode cX0_firstWrong 2 = .ok (.iload_n 1, 1) := by decide +kernel
theorem dX0_firstWrong_3 : decode cX0_firstWrong 3 = .ok (.aload_n 0, 1) := by decide +kernel
theorem dX0_firstWrong_4 : decode cX0_firstWrong 4 = .ok (.getfield 15, 3) := by decide +kernel
theorem dX0_firstWrong_7 : decode cX0_firstWrong 7 = .ok (.if_icmp .ge 19, 3) := by decide +kernel
theorem dX0_firstWrong_10 : decode cX0_firstWrong 10 = .ok (.aload_n 0, 1) := by decide +kernel
theorem dX0_firstWrong_11 : decode cX0_firstWrong 11 = .ok (.iload_n 1, 1) := by decide +kernel
theorem dX0_firstWrong_12 : decode cX0_firstWrong 12 = .ok (.invokevirtual 19, 3) := by decide +kernel
theorem dX0_firstWrong_15 : decode cX0_firstWrong 15 = .ok (.ifCond .ne 5, 3) := by decide +kernel
theorem dX0_firstWrong_18 : decode cX0_firstWrong 18 = .ok (.iload_n 1, 1) := by decide +kernel
theorem dX0_firstWrong_19 : decode cX0_firstWrong 19 = .ok (.ireturn, 1) := by decide +kernel
theorem dX0_firstWrong_20 : decode cX0_firstWrong 20 = .ok (.iinc 1 1, 3) := by decide +kernel
theorem dX0_firstWrong_23 : decode cX0_firstWrong 23 = .ok (.goto (-21), 3) := by decide +kernel
theorem dX0_firstWrong_26 : decode cX0_firstWrong 26 = .ok (.aload_n 0, 1) := by decide +kernel
theorem dX0_firstWrong_27 : decode cX0_firstWrong 27 = .ok (.getfield 15, 3) := by decide +kernel
theorem dX0_firstWrong_30 : decode cX0_firstWrong 30 = .ok (.ireturn, 1) := by decide +kernel
theorem dX0_isRoutine_0 : decode cX0_isRoutine 0 = .ok (.aload_n 0, 1) := by decide +kernel
theorem dX0_isRoutine_1 : decode cX0_isRoutine 1 = .ok (.getfield 15, 3) := by decide +kernel
theorem dX0_isRoutine_4 : decode cX0_isRoutine 4 = .ok (.iconst 3, 1) := by decide +kernel
theorem dX0_isRoutine_5 : decode cX0_isRoutine 5 = .ok (.if_icmp .le 20, 3) := by decide +kernel
theorem dX0_isRoutine_8 : decode cX0_isRoutine 8 = .ok (.aload_n 0, 1) := by decide +kernel
theorem dX0_isRoutine_9 : decode cX0_isRoutine 9 = .ok (.getfield 15, 3) := by decide +kernel
theorem dX0_isRoutine_12 : decode cX0_isRoutine 12 = .ok (.iconst 1, 1) := by decide +kernel
theorem dX0_isRoutine_13 : decode cX0_isRoutine 13 = .ok (.isub, 1) := by decide +kernel
theorem dX0_isRoutine_14 : decode cX0_isRoutine 14 = .ok (.invokestatic 23, 3) := by decide +kernel
theorem dX0_isRoutine_17 : decode cX0_isRoutine 17 = .ok (.iconst 1, 1) := by decide +kernel
theorem dX0_isRoutine_18 : decode cX0_isRoutine 18 = .ok (.if_icmp .ne 7, 3) := by decide +kernel
theorem dX0_isRoutine_21 : decode cX0_isRoutine 21 = .ok (.iconst 1, 1) := by decide +kernel
theorem dX0_isRoutine_22 : decode cX0_isRoutine 22 = .ok (.goto 4, 3) := by decide +kernel
theorem dX0_isRoutine_25 : decode cX0_isRoutine 25 = .ok (.iconst 0, 1) := by decide +kernel
theorem dX0_isRoutine_26 : decode cX0_isRoutine 26 = .ok (.istore_n 1, 1) := by decide +kernel
theorem dX0_isRoutine_27 : decode cX0_isRoutine 27 = .ok (.iload_n 1, 1) := by decide +kernel
theorem dX0_isRoutine_28 : decode cX0_isRoutine 28 = .ok (.ifCond .eq 18, 3) := by decide +kernel
theorem dX0_isRoutine_31 : decode cX0_isRoutine 31 = .ok (.aload_n 0, 1) := by decide +kernel
theorem dX0_isRoutine_32 : decode cX0_isRoutine 32 = .ok (.invokevirtual 27, 3) := by decide +kernel
theorem dX0_isRoutine_35 : decode cX0_isRoutine 35 = .ok (.aload_n 0, 1) := by decide +kernel
theorem dX0_isRoutine_36 : decode cX0_isRoutine 36 = .ok (.getfield 15, 3) := by decide +kernel
theorem dX0_isRoutine_39 : decode cX0_isRoutine 39 = .ok (.if_icmp .ne 7, 3) := by decide +kernel
theorem dX0_isRoutine_42 : decode cX0_isRoutine 42 = .ok (.iconst 1, 1) := by decide +kernel
theorem dX0_isRoutine_43 : decode cX0_isRoutine 43 = .ok (.goto 4, 3) := by decide +kernel
theorem dX0_isRoutine_46 : decode cX0_isRoutine 46 = .ok (.iconst 0, 1) := by decide +kernel
theorem dX0_isRoutine_47 : decode cX0_isRoutine 47 = .ok (.ireturn, 1) := by decide +kernel
theorem dX0_mayStand_0 : decode cX0_mayStand 0 = .ok (.aload_n 0, 1) := by decide +kernel
theorem dX0_mayStand_1 : decode cX0_mayStand 1 = .ok (.getfield 11, 3) := by decide +kernel
theorem dX0_mayStand_4 : decode cX0_mayStand 4 = .ok (.iload_n 1, 1) := by decide +kernel
theorem dX0_mayStand_5 : decode cX0_mayStand 5 = .ok (.iaload, 1) := by decide +kernel
theorem dX0_mayStand_6 : decode cX0_mayStand 6 = .ok (.istore_n 2, 1) := by decide +kernel
theorem dX0_mayStand_7 : decode cX0_mayStand 7 = .ok (.iload_n 1, 1) := by decide +kernel
theorem dX0_mayStand_8 : decode cX0_mayStand 8 = .ok (.bipush 20, 2) := by decide +kernel
theorem dX0_mayStand_10 : decode cX0_mayStand 10 = .ok (.if_icmp .lt 5, 3) := by decide +kernel
theorem dX0_mayStand_13 : decode cX0_mayStand 13 = .ok (.iconst 0, 1) := by decide +kernel
theorem dX0_mayStand_14 : decode cX0_mayStand 14 = .ok (.ireturn, 1) := by decide +kernel
theorem dX0_mayStand_15 : decode cX0_mayStand 15 = .ok (.iload_n 1, 1) := by decide +kernel
theorem dX0_mayStand_16 : decode cX0_mayStand 16 = .ok (.tableswitch 107 0 2 #[28, 46, 95], 28) := by decide +kernel
theorem dX0_mayStand_44 : decode cX0_mayStand 44 = .ok (.iload_n 2, 1) := by decide +kernel
theorem dX0_mayStand_45 : decode cX0_mayStand 45 = .ok (.bipush 48, 2) := by decide +kernel
theorem dX0_mayStand_47 : decode cX0_mayStand 47 = .ok (.if_icmp .eq 9, 3) := by decide +kernel
theorem dX0_mayStand_50 : decode cX0_mayStand 50 = .ok (.iload_n 2, 1) := by decide +kernel
theorem dX0_mayStand_51 : decode cX0_mayStand 51 = .ok (.bipush 49, 2) := by decide +kernel
theorem dX0_mayStand_53 : decode cX0_mayStand 53 = .ok (.if_icmp .ne 7, 3) := by decide +kernel
theorem dX0_mayStand_56 : decode cX0_mayStand 56 = .ok (.iconst 1, 1) := by decide +kernel
theorem dX0_mayStand_57 : decode cX0_mayStand 57 = .ok (.goto 4, 3) := by decide +kernel
theorem dX0_mayStand_60 : decode cX0_mayStand 60 = .ok (.iconst 0, 1) := by decide +kernel
theorem dX0_mayStand_61 : decode cX0_mayStand 61 = .ok (.ireturn, 1) := by decide +kernel
theorem dX0_mayStand_62 : decode cX0_mayStand 62 = .ok (.aload_n 0, 1) := by decide +kernel
theorem dX0_mayStand_63 : decode cX0_mayStand 63 = .ok (.getfield 11, 3) := by decide +kernel
theorem dX0_mayStand_66 : decode cX0_mayStand 66 = .ok (.iconst 0, 1) := by decide +kernel
theorem dX0_mayStand_67 : decode cX0_mayStand 67 = .ok (.iaload, 1) := by decide +kernel
theorem dX0_mayStand_68 : decode cX0_mayStand 68 = .ok (.bipush 48, 2) := by decide +kernel
theorem dX0_mayStand_70 : decode cX0_mayStand 70 = .ok (.if_icmp .ne 23, 3) := by decide +kernel
theorem dX0_mayStand_73 : decode cX0_mayStand 73 = .ok (.iload_n 2, 1) := by decide +kernel
theorem dX0_mayStand_74 : decode cX0_mayStand 74 = .ok (.bipush 50, 2) := by decide +kernel
theorem dX0_mayStand_76 : decode cX0_mayStand 76 = .ok (.if_icmp .lt 13, 3) := by decide +kernel
theorem dX0_mayStand_79 : decode cX0_mayStand 79 = .ok (.iload_n 2, 1) := by decide +kernel
theorem dX0_mayStand_80 : decode cX0_mayStand 80 = .ok (.bipush 57, 2) := by decide +kernel
theorem dX0_mayStand_82 : decode cX0_mayStand 82 = .ok (.if_icmp .gt 7, 3) := by decide +kernel
theorem dX0_mayStand_85 : decode cX0_mayStand 85 = .ok (.iconst 1, 1) := by decide +kernel
theorem dX0_mayStand_86 : decode cX0_mayStand 86 = .ok (.goto 24, 3) := by decide +kernel
theorem dX0_mayStand_89 : decode cX0_mayStand 89 = .ok (.iconst 0, 1) := by decide +kernel
theorem dX0_mayStand_90 : decode cX0_mayStand 90 = .ok (.goto 20, 3) := by decide +kernel
theorem dX0_mayStand_93 : decode cX0_mayStand 93 = .ok (.iload_n 2, 1) := by decide +kernel
theorem dX0_mayStand_94 : decode cX0_mayStand 94 = .ok (.bipush 48, 2) := by decide +kernel
theorem dX0_mayStand_96 : decode cX0_mayStand 96 = .ok (.if_icmp .lt 13, 3) := by decide +kernel
theorem dX0_mayStand_99 : decode cX0_mayStand 99 = .ok (.iload_n 2, 1) := by decide +kernel
theorem dX0_mayStand_100 : decode cX0_mayStand 100 = .ok (.bipush 50, 2) := by decide +kernel
theorem dX0_mayStand_102 : decode cX0_mayStand 102 = .ok (.if_icmp .gt 7, 3) := by decide +kernel
theorem dX0_mayStand_105 : decode cX0_mayStand 105 = .ok (.iconst 1, 1) := by decide +kernel
theorem dX0_mayStand_106 : decode cX0_mayStand 106 = .ok (.goto 4, 3) := by decide +kernel
theorem dX0_mayStand_109 : decode cX0_mayStand 109 = .ok (.iconst 0, 1) := by decide +kernel
theorem dX0_mayStand_110 : decode cX0_mayStand 110 = .ok (.ireturn, 1) := by decide +kernel
theorem dX0_mayStand_111 : decode cX0_mayStand 111 = .ok (.iload_n 2, 1) := by decide +kernel
theorem dX0_mayStand_112 : decode cX0_mayStand 112 = .ok (.bipush 59, 2) := by decide +kernel
theorem dX0_mayStand_114 : decode cX0_mayStand 114 = .ok (.if_icmp .ne 7, 3) := by decide +kernel
theorem dX0_mayStand_117 : decode cX0_mayStand 117 = .ok (.iconst 1, 1) := by decide +kernel
theorem dX0_mayStand_118 : decode cX0_mayStand 118 = .ok (.goto 4, 3) := by decide +kernel
theorem dX0_mayStand_121 : decode cX0_mayStand 121 = .ok (.iconst 0, 1) := by decide +kernel
theorem dX0_mayStand_122 : decode cX0_mayStand 122 = .ok (.ireturn, 1) := by decide +kernel
theorem dX0_mayStand_123 : decode cX0_mayStand 123 = .ok (.iload_n 1, 1) := by decide +kernel
theorem dX0_mayStand_124 : decode cX0_mayStand 124 = .ok (.invokestatic 23, 3) := by decide +kernel
theorem dX0_mayStand_127 : decode cX0_mayStand 127 = .ok (.iload_n 2, 1) := by decide +kernel
theorem dX0_mayStand_128 : decode cX0_mayStand 128 = .ok (.invokestatic 31, 3) := by decide +kernel
theorem dX0_mayStand_131 : decode cX0_mayStand 131 = .ok (.ireturn, 1) := by decide +kernel
theorem dX0_mayStandInStep_0 : decode cX0_mayStandInStep 0 = .ok (.iload_n 0, 1) := by decide +kernel
theorem dX0_mayStandInStep_1 : decode cX0_mayStandInStep 1 = .ok (.lookupswitch 61 #[(0, 27), (1, 43)], 27) := by decide +kernel
theorem dX0_mayStandInStep_28 : decode cX0_mayStandInStep 28 = .ok (.ldc 35, 2) := by decide +kernel
theorem dX0_mayStandInStep_30 : decode cX0_mayStandInStep 30 = .ok (.iload_n 1, 1) := by decide +kernel
theorem dX0_mayStandInStep_31 : decode cX0_mayStandInStep 31 = .ok (.i2c, 1) := by decide +kernel
theorem dX0_mayStandInStep_32 : decode cX0_mayStandInStep 32 = .ok (.invokevirtual 37, 3) := by decide +kernel
theorem dX0_mayStandInStep_35 : decode cX0_mayStandInStep 35 = .ok (.ifCond .lt 7, 3) := by decide +kernel
theorem dX0_mayStandInStep_38 : decode cX0_mayStandInStep 38 = .ok (.iconst 1, 1) := by decide +kernel
theorem dX0_mayStandInStep_39 : decode cX0_mayStandInStep 39 = .ok (.goto 4, 3) := by decide +kernel
theorem dX0_mayStandInStep_42 : decode cX0_mayStandInStep 42 = .ok (.iconst 0, 1) := by decide +kernel
theorem dX0_mayStandInStep_43 : decode cX0_mayStandInStep 43 = .ok (.ireturn, 1) := by decide +kernel
theorem dX0_mayStandInStep_44 : decode cX0_mayStandInStep 44 = .ok (.iload_n 1, 1) := by decide +kernel
theorem dX0_mayStandInStep_45 : decode cX0_mayStandInStep 45 = .ok (.bipush 48, 2) := by decide +kernel
theorem dX0_mayStandInStep_47 : decode cX0_mayStandInStep 47 = .ok (.if_icmp .lt 13, 3) := by decide +kernel
theorem dX0_mayStandInStep_50 : decode cX0_mayStandInStep 50 = .ok (.iload_n 1, 1) := by decide +kernel
theorem dX0_mayStandInStep_51 : decode cX0_mayStandInStep 51 = .ok (.bipush 57, 2) := by decide +kernel
theorem dX0_mayStandInStep_53 : decode cX0_mayStandInStep 53 = .ok (.if_icmp .gt 7, 3) := by decide +kernel
theorem dX0_mayStandInStep_56 : decode cX0_mayStandInStep 56 = .ok (.iconst 1, 1) := by decide +kernel
theorem dX0_mayStandInStep_57 : decode cX0_mayStandInStep 57 = .ok (.goto 4, 3) := by decide +kernel
theorem dX0_mayStandInStep_60 : decode cX0_mayStandInStep 60 = .ok (.iconst 0, 1) := by decide +kernel
theorem dX0_mayStandInStep_61 : decode cX0_mayStandInStep 61 = .ok (.ireturn, 1) := by decide +kernel
theorem dX0_mayStandInStep_62 : decode cX0_mayStandInStep 62 = .ok (.iload_n 1, 1) := by decide +kernel
theorem dX0_mayStandInStep_63 : decode cX0_mayStandInStep 63 = .ok (.bipush 44, 2) := by decide +kernel
theorem dX0_mayStandInStep_65 : decode cX0_mayStandInStep 65 = .ok (.if_icmp .ne 7, 3) := by decide +kernel
theorem dX0_mayStandInStep_68 : decode cX0_mayStandInStep 68 = .ok (.iconst 1, 1) := by decide +kernel
theorem dX0_mayStandInStep_69 : decode cX0_mayStandInStep 69 = .ok (.goto 4, 3) := by decide +kernel
theorem dX0_mayStandInStep_72 : decode cX0_mayStandInStep 72 = .ok (.iconst 0, 1) := by decide +kernel
theorem dX0_mayStandInStep_73 : decode cX0_mayStandInStep 73 = .ok (.ireturn, 1) := by decide +kernel
theorem dX0_partOfStep_0 : decode cX0_partOfStep 0 = .ok (.iload_n 0, 1) := by decide +kernel
theorem dX0_partOfStep_1 : decode cX0_partOfStep 1 = .ok (.iconst 3, 1) := by decide +kernel
theorem dX0_partOfStep_2 : decode cX0_partOfStep 2 = .ok (.isub, 1) := by decide +kernel
theorem dX0_partOfStep_3 : decode cX0_partOfStep 3 = .ok (.iconst 3, 1) := by decide +kernel
theorem dX0_partOfStep_4 : decode cX0_partOfStep 4 = .ok (.irem, 1) := by decide +kernel
theorem dX0_partOfStep_5 : decode cX0_partOfStep 5 = .ok (.ireturn, 1) := by decide +kernel
theorem dX0_readInto_0 : decode cX0_readInto 0 = .ok (.bipush 10, 2) := by decide +kernel
theorem dX0_readInto_2 : decode cX0_readInto 2 = .ok (.aload_n 0, 1) := by decide +kernel
theorem dX0_readInto_3 : decode cX0_readInto 3 = .ok (.getfield 11, 3) := by decide +kernel
theorem dX0_readInto_6 : decode cX0_readInto 6 = .ok (.iconst 0, 1) := by decide +kernel
theorem dX0_readInto_7 : decode cX0_readInto 7 = .ok (.iaload, 1) := by decide +kernel
theorem dX0_readInto_8 : decode cX0_readInto 8 = .ok (.bipush 48, 2) := by decide +kernel
theorem dX0_readInto_10 : decode cX0_readInto 10 = .ok (.isub, 1) := by decide +kernel
theorem dX0_readInto_11 : decode cX0_readInto 11 = .ok (.imul, 1) := by decide +kernel
theorem dX0_readInto_12 : decode cX0_readInto 12 = .ok (.aload_n 0, 1) := by decide +kernel
theorem dX0_readInto_13 : decode cX0_readInto 13 = .ok (.getfield 11, 3) := by decide +kernel
theorem dX0_readInto_16 : decode cX0_readInto 16 = .ok (.iconst 1, 1) := by decide +kernel
theorem dX0_readInto_17 : decode cX0_readInto 17 = .ok (.iaload, 1) := by decide +kernel
theorem dX0_readInto_18 : decode cX0_readInto 18 = .ok (.iadd, 1) := by decide +kernel
theorem dX0_readInto_19 : decode cX0_readInto 19 = .ok (.bipush 48, 2) := by decide +kernel
theorem dX0_readInto_21 : decode cX0_readInto 21 = .ok (.isub, 1) := by decide +kernel
theorem dX0_readInto_22 : decode cX0_readInto 22 = .ok (.istore_n 2, 1) := by decide +kernel
theorem dX0_readInto_23 : decode cX0_readInto 23 = .ok (.aload_n 1, 1) := by decide +kernel
theorem dX0_readInto_24 : decode cX0_readInto 24 = .ok (.iload_n 2, 1) := by decide +kernel
theorem dX0_readInto_25 : decode cX0_readInto 25 = .ok (.aload_n 0, 1) := by decide +kernel
theorem dX0_readInto_26 : decode cX0_readInto 26 = .ok (.getfield 15, 3) := by decide +kernel
theorem dX0_readInto_29 : decode cX0_readInto 29 = .ok (.iconst 1, 1) := by decide +kernel
theorem dX0_readInto_30 : decode cX0_readInto 30 = .ok (.iadd, 1) := by decide +kernel
theorem dX0_readInto_31 : decode cX0_readInto 31 = .ok (.iconst 3, 1) := by decide +kernel
theorem dX0_readInto_32 : decode cX0_readInto 32 = .ok (.isub, 1) := by decide +kernel
theorem dX0_readInto_33 : decode cX0_readInto 33 = .ok (.iconst 3, 1) := by decide +kernel
theorem dX0_readInto_34 : decode cX0_readInto 34 = .ok (.idiv, 1) := by decide +kernel
theorem dX0_readInto_35 : decode cX0_readInto 35 = .ok (.invokevirtual 42, 3) := by decide +kernel
theorem dX0_readInto_38 : decode cX0_readInto 38 = .ok (.iconst 0, 1) := by decide +kernel
theorem dX0_readInto_39 : decode cX0_readInto 39 = .ok (.istore_n 3, 1) := by decide +kernel
theorem dX0_readInto_40 : decode cX0_readInto 40 = .ok (.iload_n 3, 1) := by decide +kernel
theorem dX0_readInto_41 : decode cX0_readInto 41 = .ok (.aload_n 1, 1) := by decide +kernel
theorem dX0_readInto_42 : decode cX0_readInto 42 = .ok (.getfield 48, 3) := by decide +kernel
theorem dX0_readInto_45 : decode cX0_readInto 45 = .ok (.if_icmp .ge 50, 3) := by decide +kernel
theorem dX0_readInto_48 : decode cX0_readInto 48 = .ok (.iconst 3, 1) := by decide +kernel
theorem dX0_readInto_49 : decode cX0_readInto 49 = .ok (.iload_n 3, 1) := by decide +kernel
theorem dX0_readInto_50 : decode cX0_readInto 50 = .ok (.iconst 3, 1) := by decide +kernel
theorem dX0_readInto_51 : decode cX0_readInto 51 = .ok (.imul, 1) := by decide +kernel
theorem dX0_readInto_52 : decode cX0_readInto 52 = .ok (.iadd, 1) := by decide +kernel
theorem dX0_readInto_53 : decode cX0_readInto 53 = .ok (.istore 4, 2) := by decide +kernel
theorem dX0_readInto_55 : decode cX0_readInto 55 = .ok (.ldc 35, 2) := by decide +kernel
theorem dX0_readInto_57 : decode cX0_readInto 57 = .ok (.aload_n 0, 1) := by decide +kernel
theorem dX0_readInto_58 : decode cX0_readInto 58 = .ok (.getfield 11, 3) := by decide +kernel
theorem dX0_readInto_61 : decode cX0_readInto 61 = .ok (.iload 4, 2) := by decide +kernel
theorem dX0_readInto_63 : decode cX0_readInto 63 = .ok (.iaload, 1) := by decide +kernel
theorem dX0_readInto_64 : decode cX0_readInto 64 = .ok (.i2c, 1) := by decide +kernel
theorem dX0_readInto_65 : decode cX0_readInto 65 = .ok (.invokevirtual 37, 3) := by decide +kernel
theorem dX0_readInto_68 : decode cX0_readInto 68 = .ok (.istore 5, 2) := by decide +kernel
theorem dX0_readInto_70 : decode cX0_readInto 70 = .ok (.aload_n 1, 1) := by decide +kernel
theorem dX0_readInto_71 : decode cX0_readInto 71 = .ok (.iload_n 3, 1) := by decide +kernel
theorem dX0_readInto_72 : decode cX0_readInto 72 = .ok (.iload 5, 2) := by decide +kernel
theorem dX0_readInto_74 : decode cX0_readInto 74 = .ok (.aload_n 0, 1) := by decide +kernel
theorem dX0_readInto_75 : decode cX0_readInto 75 = .ok (.getfield 11, 3) := by decide +kernel
theorem dX0_readInto_78 : decode cX0_readInto 78 = .ok (.iload 4, 2) := by decide +kernel
theorem dX0_readInto_80 : decode cX0_readInto 80 = .ok (.iconst 1, 1) := by decide +kernel
theorem dX0_readInto_81 : decode cX0_readInto 81 = .ok (.iadd, 1) := by decide +kernel
theorem dX0_readInto_82 : decode cX0_readInto 82 = .ok (.iaload, 1) := by decide +kernel
theorem dX0_readInto_83 : decode cX0_readInto 83 = .ok (.bipush 48, 2) := by decide +kernel
theorem dX0_readInto_85 : decode cX0_readInto 85 = .ok (.isub, 1) := by decide +kernel
theorem dX0_readInto_86 : decode cX0_readInto 86 = .ok (.invokevirtual 51, 3) := by decide +kernel
theorem dX0_readInto_89 : decode cX0_readInto 89 = .ok (.iinc 3 1, 3) := by decide +kernel
theorem dX0_readInto_92 : decode cX0_readInto 92 = .ok (.goto (-52), 3) := by decide +kernel
theorem dX0_readInto_95 : decode cX0_readInto 95 = .ok (.return_, 1) := by decide +kernel
theorem dX1_init_0 : decode cX1_init 0 = .ok (.aload_n 0, 1) := by decide +kernel
theorem dX1_init_1 : decode cX1_init 1 = .ok (.invokespecial 3, 3) := by decide +kernel
theorem dX1_init_4 : decode cX1_init 4 = .ok (.aload_n 0, 1) := by decide +kernel
theorem dX1_init_5 : decode cX1_init 5 = .ok (.bipush 6, 2) := by decide +kernel
theorem dX1_init_7 : decode cX1_init 7 = .ok (.newarray .int, 2) := by decide +kernel
theorem dX1_init_9 : decode cX1_init 9 = .ok (.putfield 9, 3) := by decide +kernel
theorem dX1_init_12 : decode cX1_init 12 = .ok (.aload_n 0, 1) := by decide +kernel
theorem dX1_init_13 : decode cX1_init 13 = .ok (.bipush 6, 2) := by decide +kernel
theorem dX1_init_15 : decode cX1_init 15 = .ok (.newarray .int, 2) := by decide +kernel
theorem dX1_init_17 : decode cX1_init 17 = .ok (.putfield 15, 3) := by decide +kernel
theorem dX1_init_20 : decode cX1_init 20 = .ok (.aload_n 0, 1) := by decide +kernel
theorem dX1_init_21 : decode cX1_init 21 = .ok (.bipush 72, 2) := by decide +kernel
theorem dX1_init_23 : decode cX1_init 23 = .ok (.newarray .int, 2) := by decide +kernel
theorem dX1_init_25 : decode cX1_init 25 = .ok (.putfield 18, 3) := by decide +kernel
theorem dX1_init_28 : decode cX1_init 28 = .ok (.aload_n 0, 1) := by decide +kernel
theorem dX1_init_29 : decode cX1_init 29 = .ok (.bipush 12, 2) := by decide +kernel
theorem dX1_init_31 : decode cX1_init 31 = .ok (.newarray .int, 2) := by decide +kernel
theorem dX1_init_33 : decode cX1_init 33 = .ok (.putfield 21, 3) := by decide +kernel
theorem dX1_init_36 : decode cX1_init 36 = .ok (.aload_n 0, 1) := by decide +kernel
theorem dX1_init_37 : decode cX1_init 37 = .ok (.bipush 6, 2) := by decide +kernel
theorem dX1_init_39 : decode cX1_init 39 = .ok (.newarray .int, 2) := by decide +kernel
theorem dX1_init_41 : decode cX1_init 41 = .ok (.putfield 24, 3) := by decide +kernel
theorem dX1_init_44 : decode cX1_init 44 = .ok (.aload_n 0, 1) := by decide +kernel
theorem dX1_init_45 : decode cX1_init 45 = .ok (.bipush 6, 2) := by decide +kernel
theorem dX1_init_47 : decode cX1_init 47 = .ok (.newarray .int, 2) := by decide +kernel
theorem dX1_init_49 : decode cX1_init 49 = .ok (.putfield 27, 3) := by decide +kernel
theorem dX1_init_52 : decode cX1_init 52 = .ok (.aload_n 0, 1) := by decide +kernel
theorem dX1_init_53 : decode cX1_init 53 = .ok (.bipush 6, 2) := by decide +kernel
theorem dX1_init_55 : decode cX1_init 55 = .ok (.newarray .int, 2) := by decide +kernel
theorem dX1_init_57 : decode cX1_init 57 = .ok (.putfield 30, 3) := by decide +kernel
theorem dX1_init_60 : decode cX1_init 60 = .ok (.return_, 1) := by decide +kernel
theorem dX1_begin_0 : decode cX1_begin 0 = .ok (.aload_n 0, 1) := by decide +kernel
theorem dX1_begin_1 : decode cX1_begin 1 = .ok (.iload_n 1, 1) := by decide +kernel
theorem dX1_begin_2 : decode cX1_begin 2 = .ok (.putfield 33, 3) := by decide +kernel
theorem dX1_begin_5 : decode cX1_begin 5 = .ok (.aload_n 0, 1) := by decide +kernel
theorem dX1_begin_6 : decode cX1_begin 6 = .ok (.iload_n 2, 1) := by decide +kernel
theorem dX1_begin_7 : decode cX1_begin 7 = .ok (.putfield 37, 3) := by decide +kernel
theorem dX1_begin_10 : decode cX1_begin 10 = .ok (.aload_n 0, 1) := by decide +kernel
theorem dX1_begin_11 : decode cX1_begin 11 = .ok (.iconst 0, 1) := by decide +kernel
theorem dX1_begin_12 : decode cX1_begin 12 = .ok (.putfield 40, 3) := by decide +kernel
theorem dX1_begin_15 : decode cX1_begin 15 = .ok (.aload_n 0, 1) := by decide +kernel
theorem dX1_begin_16 : decode cX1_begin 16 = .ok (.iconst 0, 1) := by decide +kernel
theorem dX1_begin_17 : decode cX1_begin 17 = .ok (.putfield 43, 3) := by decide +kernel
theorem dX1_begin_20 : decode cX1_begin 20 = .ok (.aload_n 0, 1) := by decide +kernel
theorem dX1_begin_21 : decode cX1_begin 21 = .ok (.invokevirtual 46, 3) := by decide +kernel
theorem dX1_begin_24 : decode cX1_begin 24 = .ok (.return_, 1) := by decide +kernel
theorem dX1_copy_0 : decode cX1_copy 0 = .ok (.aload_n 0, 1) := by decide +kernel
theorem dX1_copy_1 : decode cX1_copy 1 = .ok (.aload_n 1, 1) := by decide +kernel
theorem dX1_copy_2 : decode cX1_copy 2 = .ok (.getfield 33, 3) := by decide +kernel
theorem dX1_copy_5 : decode cX1_copy 5 = .ok (.putfield 33, 3) := by decide +kernel
theorem dX1_copy_8 : decode cX1_copy 8 = .ok (.aload_n 0, 1) := by decide +kernel
theorem dX1_copy_9 : decode cX1_copy 9 = .ok (.aload_n 1, 1) := by decide +kernel
theorem dX1_copy_10 : decode cX1_copy 10 = .ok (.getfield 37, 3) := by decide +kernel
theorem dX1_copy_13 : decode cX1_copy 13 = .ok (.putfield 37, 3) := by decide +kernel
theorem dX1_copy_16 : decode cX1_copy 16 = .ok (.aload_n 0, 1) := by decide +kernel
theorem dX1_copy_17 : decode cX1_copy 17 = .ok (.aload_n 1, 1) := by decide +kernel
theorem dX1_copy_18 : decode cX1_copy 18 = .ok (.getfield 40, 3) := by decide +kernel
theorem dX1_copy_21 : decode cX1_copy 21 = .ok (.putfield 40, 3) := by decide +kernel
theorem dX1_copy_24 : decode cX1_copy 24 = .ok (.aload_n 0, 1) := by decide +kernel
theorem dX1_copy_25 : decode cX1_copy 25 = .ok (.aload_n 1, 1) := by decide +kernel
theorem dX1_copy_26 : decode cX1_copy 26 = .ok (.getfield 43, 3) := by decide +kernel
theorem dX1_copy_29 : decode cX1_copy 29 = .ok (.putfield 43, 3) := by decide +kernel
theorem dX1_copy_32 : decode cX1_copy 32 = .ok (.aload_n 1, 1) := by decide +kernel
theorem dX1_copy_33 : decode cX1_copy 33 = .ok (.getfield 9, 3) := by decide +kernel
theorem dX1_copy_36 : decode cX1_copy 36 = .ok (.iconst 0, 1) := by decide +kernel
theorem dX1_copy_37 : decode cX1_copy 37 = .ok (.aload_n 0, 1) := by decide +kernel
theorem dX1_copy_38 : decode cX1_copy 38 = .ok (.getfield 9, 3) := by decide +kernel
theorem dX1_copy_41 : decode cX1_copy 41 = .ok (.iconst 0, 1) := by decide +kernel
theorem dX1_copy_42 : decode cX1_copy 42 = .ok (.bipush 6, 2) := by decide +kernel
theorem dX1_copy_44 : decode cX1_copy 44 = .ok (.invokestatic 49, 3) := by decide +kernel
theorem dX1_copy_47 : decode cX1_copy 47 = .ok (.aload_n 1, 1) := by decide +kernel
theorem dX1_copy_48 : decode cX1_copy 48 = .ok (.getfield 15, 3) := by decide +kernel
theorem dX1_copy_51 : decode cX1_copy 51 = .ok (.iconst 0, 1) := by decide +kernel
theorem dX1_copy_52 : decode cX1_copy 52 = .ok (.aload_n 0, 1) := by decide +kernel
theorem dX1_copy_53 : decode cX1_copy 53 = .ok (.getfield 15, 3) := by decide +kernel
theorem dX1_copy_56 : decode cX1_copy 56 = .ok (.iconst 0, 1) := by decide +kernel
theorem dX1_copy_57 : decode cX1_copy 57 = .ok (.bipush 6, 2) := by decide +kernel
theorem dX1_copy_59 : decode cX1_copy 59 = .ok (.invokestatic 49, 3) := by decide +kernel
theorem dX1_copy_62 : decode cX1_copy 62 = .ok (.aload_n 1, 1) := by decide +kernel
theorem dX1_copy_63 : decode cX1_copy 63 = .ok (.getfield 18, 3) := by decide +kernel
theorem dX1_copy_66 : decode cX1_copy 66 = .ok (.iconst 0, 1) := by decide +kernel
theorem dX1_copy_67 : decode cX1_copy 67 = .ok (.aload_n 0, 1) := by decide +kernel
theorem dX1_copy_68 : decode cX1_copy 68 = .ok (.getfield 18, 3) := by decide +kernel
theorem dX1_copy_71 : decode cX1_copy 71 = .ok (.iconst 0, 1) := by decide +kernel
theorem dX1_copy_72 : decode cX1_copy 72 = .ok (.bipush 72, 2) := by decide +kernel
theorem dX1_copy_74 : decode cX1_copy 74 = .ok (.invokestatic 49, 3) := by decide +kernel
theorem dX1_copy_77 : decode cX1_copy 77 = .ok (.aload_n 1, 1) := by decide +kernel
theorem dX1_copy_78 : decode cX1_copy 78 = .ok (.getfield 21, 3) := by decide +kernel
theorem dX1_copy_81 : decode cX1_copy 81 = .ok (.iconst 0, 1) := by decide +kernel
theorem dX1_copy_82 : decode cX1_copy 82 = .ok (.aload_n 0, 1) := by decide +kernel
theorem dX1_copy_83 : decode cX1_copy 83 = .ok (.getfield 21, 3) := by decide +kernel
theorem dX1_copy_86 : decode cX1_copy 86 = .ok (.iconst 0, 1) := by decide +kernel
theorem dX1_copy_87 : decode cX1_copy 87 = .ok (.bipush 12, 2) := by decide +kernel
theorem dX1_copy_89 : decode cX1_copy 89 = .ok (.invokestatic 49, 3) := by decide +kernel
theorem dX1_copy_92 : decode cX1_copy 92 = .ok (.aload_n 1, 1) := by decide +kernel
theorem dX1_copy_93 : decode cX1_copy 93 = .ok (.getfield 24, 3) := by decide +kernel
theorem dX1_copy_96 : decode cX1_copy 96 = .ok (.iconst 0, 1) := by decide +kernel
theorem dX1_copy_97 : decode cX1_copy 97 = .ok (.aload_n 0, 1) := by decide +kernel
theorem dX1_copy_98 : decode cX1_copy 98 = .ok (.getfield 24, 3) := by decide +kernel
theorem dX1_copy_101 : decode cX1_copy 101 = .ok (.iconst 0, 1) := by decide +kernel
theorem dX1_copy_102 : decode cX1_copy 102 = .ok (.bipush 6, 2) := by decide +kernel
theorem dX1_copy_104 : decode cX1_copy 104 = .ok (.invokestatic 49, 3) := by decide +kernel
theorem dX1_copy_107 : decode cX1_copy 107 = .ok (.aload_n 1, 1) := by decide +kernel
theorem dX1_copy_108 : decode cX1_copy 108 = .ok (.getfield 27, 3) := by decide +kernel
theorem dX1_copy_111 : decode cX1_copy 111 = .ok (.iconst 0, 1) := by decide +kernel
theorem dX1_copy_112 : decode cX1_copy 112 = .ok (.aload_n 0, 1) := by decide +kernel
theorem dX1_copy_113 : decode cX1_copy 113 = .ok (.getfield 27, 3) := by decide +kernel
theorem dX1_copy_116 : decode cX1_copy 116 = .ok (.iconst 0, 1) := by decide +kernel
theorem dX1_copy_117 : decode cX1_copy 117 = .ok (.bipush 6, 2) := by decide +kernel
theorem dX1_copy_119 : decode cX1_copy 119 = .ok (.invokestatic 49, 3) := by decide +kernel
theorem dX1_copy_122 : decode cX1_copy 122 = .ok (.aload_n 1, 1) := by decide +kernel
theorem dX1_copy_123 : decode cX1_copy 123 = .ok (.getfield 30, 3) := by decide +kernel
theorem dX1_copy_126 : decode cX1_copy 126 = .ok (.iconst 0, 1) := by decide +kernel
theorem dX1_copy_127 : decode cX1_copy 127 = .ok (.aload_n 0, 1) := by decide +kernel
theorem dX1_copy_128 : decode cX1_copy 128 = .ok (.getfield 30, 3) := by decide +kernel
theorem dX1_copy_131 : decode cX1_copy 131 = .ok (.iconst 0, 1) := by decide +kernel
theorem dX1_copy_132 : decode cX1_copy 132 = .ok (.bipush 6, 2) := by decide +kernel
theorem dX1_copy_134 : decode cX1_copy 134 = .ok (.invokestatic 49, 3) := by decide +kernel
theorem dX1_copy_137 : decode cX1_copy 137 = .ok (.return_, 1) := by decide +kernel
theorem dX1_hasRoutine_0 : decode cX1_hasRoutine 0 = .ok (.aload_n 0, 1) := by decide +kernel
theorem dX1_hasRoutine_1 : decode cX1_hasRoutine 1 = .ok (.getfield 37, 3) := by decide +kernel
theorem dX1_hasRoutine_4 : decode cX1_hasRoutine 4 = .ok (.ifCond .le 7, 3) := by decide +kernel
theorem dX1_hasRoutine_7 : decode cX1_hasRoutine 7 = .ok (.iconst 1, 1) := by decide +kernel
theorem dX1_hasRoutine_8 : decode cX1_hasRoutine 8 = .ok (.goto 4, 3) := by decide +kernel
theorem dX1_hasRoutine_11 : decode cX1_hasRoutine 11 = .ok (.iconst 0, 1) := by decide +kernel
theorem dX1_hasRoutine_12 : decode cX1_hasRoutine 12 = .ok (.ireturn, 1) := by decide +kernel
theorem dX1_hasStep_0 : decode cX1_hasStep 0 = .ok (.iload_n 1, 1) := by decide +kernel
theorem dX1_hasStep_1 : decode cX1_hasStep 1 = .ok (.ifCond .lt 15, 3) := by decide +kernel
theorem dX1_hasStep_4 : decode cX1_hasStep 4 = .ok (.iload_n 1, 1) := by decide +kernel
theorem dX1_hasStep_5 : decode cX1_hasStep 5 = .ok (.aload_n 0, 1) := by decide +kernel
theorem dX1_hasStep_6 : decode cX1_hasStep 6 = .ok (.getfield 37, 3) := by decide +kernel
theorem dX1_hasStep_9 : decode cX1_hasStep 9 = .ok (.if_icmp .ge 7, 3) := by decide +kernel
theorem dX1_hasStep_12 : decode cX1_hasStep 12 = .ok (.iconst 1, 1) := by decide +kernel
theorem dX1_hasStep_13 : decode cX1_hasStep 13 = .ok (.goto 4, 3) := by decide +kernel
theorem dX1_hasStep_16 : decode cX1_hasStep 16 = .ok (.iconst 0, 1) := by decide +kernel
theorem dX1_hasStep_17 : decode cX1_hasStep 17 = .ok (.ireturn, 1) := by decide +kernel
theorem dX1_hasPlace_0 : decode cX1_hasPlace 0 = .ok (.iload_n 1, 1) := by decide +kernel
theorem dX1_hasPlace_1 : decode cX1_hasPlace 1 = .ok (.ifCond .lt 15, 3) := by decide +kernel
theorem dX1_hasPlace_4 : decode cX1_hasPlace 4 = .ok (.iload_n 1, 1) := by decide +kernel
theorem dX1_hasPlace_5 : decode cX1_hasPlace 5 = .ok (.aload_n 0, 1) := by decide +kernel
theorem dX1_hasPlace_6 : decode cX1_hasPlace 6 = .ok (.getfield 33, 3) := by decide +kernel
theorem dX1_hasPlace_9 : decode cX1_hasPlace 9 = .ok (.if_icmp .ge 7, 3) := by decide +kernel
theorem dX1_hasPlace_12 : decode cX1_hasPlace 12 = .ok (.iconst 1, 1) := by decide +kernel
theorem dX1_hasPlace_13 : decode cX1_hasPlace 13 = .ok (.goto 4, 3) := by decide +kernel
theorem dX1_hasPlace_16 : decode cX1_hasPlace 16 = .ok (.iconst 0, 1) := by decide +kernel
theorem dX1_hasPlace_17 : decode cX1_hasPlace 17 = .ok (.ireturn, 1) := by decide +kernel
theorem dX1_hasCard_0 : decode cX1_hasCard 0 = .ok (.iload_n 1, 1) := by decide +kernel
theorem dX1_hasCard_1 : decode cX1_hasCard 1 = .ok (.ifCond .lt 15, 3) := by decide +kernel
theorem dX1_hasCard_4 : decode cX1_hasCard 4 = .ok (.iload_n 1, 1) := by decide +kernel
theorem dX1_hasCard_5 : decode cX1_hasCard 5 = .ok (.aload_n 0, 1) := by decide +kernel
theorem dX1_hasCard_6 : decode cX1_hasCard 6 = .ok (.getfield 33, 3) := by decide +kernel
theorem dX1_hasCard_9 : decode cX1_hasCard 9 = .ok (.if_icmp .ge 7, 3) := by decide +kernel
theorem dX1_hasCard_12 : decode cX1_hasCard 12 = .ok (.iconst 1, 1) := by decide +kernel
theorem dX1_hasCard_13 : decode cX1_hasCard 13 = .ok (.goto 4, 3) := by decide +kernel
theorem dX1_hasCard_16 : decode cX1_hasCard 16 = .ok (.iconst 0, 1) := by decide +kernel
theorem dX1_hasCard_17 : decode cX1_hasCard 17 = .ok (.ireturn, 1) := by decide +kernel
theorem dX1_setStep_0 : decode cX1_setStep 0 = .ok (.aload_n 0, 1) := by decide +kernel
theorem dX1_setStep_1 : decode cX1_setStep 1 = .ok (.getfield 9, 3) := by decide +kernel
theorem dX1_setStep_4 : decode cX1_setStep 4 = .ok (.iload_n 1, 1) := by decide +kernel
theorem dX1_setStep_5 : decode cX1_setStep 5 = .ok (.iload_n 2, 1) := by decide +kernel
theorem dX1_setStep_6 : decode cX1_setStep 6 = .ok (.iastore, 1) := by decide +kernel
theorem dX1_setStep_7 : decode cX1_setStep 7 = .ok (.aload_n 0, 1) := by decide +kernel
theorem dX1_setStep_8 : decode cX1_setStep 8 = .ok (.getfield 15, 3) := by decide +kernel
theorem dX1_setStep_11 : decode cX1_setStep 11 = .ok (.iload_n 1, 1) := by decide +kernel
theorem dX1_setStep_12 : decode cX1_setStep 12 = .ok (.iload_n 3, 1) := by decide +kernel
theorem dX1_setStep_13 : decode cX1_setStep 13 = .ok (.iastore, 1) := by decide +kernel
theorem dX1_setStep_14 : decode cX1_setStep 14 = .ok (.iconst 0, 1) := by decide +kernel
theorem dX1_setStep_15 : decode cX1_setStep 15 = .ok (.istore 4, 2) := by decide +kernel
theorem dX1_setStep_17 : decode cX1_setStep 17 = .ok (.iload 4, 2) := by decide +kernel
theorem dX1_setStep_19 : decode cX1_setStep 19 = .ok (.aload_n 0, 1) := by decide +kernel
theorem dX1_setStep_20 : decode cX1_setStep 20 = .ok (.getfield 33, 3) := by decide +kernel
theorem dX1_setStep_23 : decode cX1_setStep 23 = .ok (.if_icmp .ge 32, 3) := by decide +kernel
theorem dX1_setStep_26 : decode cX1_setStep 26 = .ok (.aload_n 0, 1) := by decide +kernel
theorem dX1_setStep_27 : decode cX1_setStep 27 = .ok (.getfield 18, 3) := by decide +kernel
theorem dX1_setStep_30 : decode cX1_setStep 30 = .ok (.iload_n 1, 1) := by decide +kernel
theorem dX1_setStep_31 : decode cX1_setStep 31 = .ok (.bipush 12, 2) := by decide +kernel
theorem dX1_setStep_33 : decode cX1_setStep 33 = .ok (.imul, 1) := by decide +kernel
theorem dX1_setStep_34 : decode cX1_setStep 34 = .ok (.iload 4, 2) := by decide +kernel
theorem dX1_setStep_36 : decode cX1_setStep 36 = .ok (.iadd, 1) := by decide +kernel
theorem dX1_setStep_37 : decode cX1_setStep 37 = .ok (.iload_n 2, 1) := by decide +kernel
theorem dX1_setStep_38 : decode cX1_setStep 38 = .ok (.iload_n 3, 1) := by decide +kernel
theorem dX1_setStep_39 : decode cX1_setStep 39 = .ok (.aload_n 0, 1) := by decide +kernel
theorem dX1_setStep_40 : decode cX1_setStep 40 = .ok (.getfield 33, 3) := by decide +kernel
theorem dX1_setStep_43 : decode cX1_setStep 43 = .ok (.iload 4, 2) := by decide +kernel
theorem dX1_setStep_45 : decode cX1_setStep 45 = .ok (.invokestatic 55, 3) := by decide +kernel
theorem dX1_setStep_48 : decode cX1_setStep 48 = .ok (.iastore, 1) := by decide +kernel
theorem dX1_setStep_49 : decode cX1_setStep 49 = .ok (.iinc 4 1, 3) := by decide +kernel
theorem dX1_setStep_52 : decode cX1_setStep 52 = .ok (.goto (-35), 3) := by decide +kernel
theorem dX1_setStep_55 : decode cX1_setStep 55 = .ok (.return_, 1) := by decide +kernel
theorem dX1_placeBehind_0 : decode cX1_placeBehind 0 = .ok (.aload_n 0, 1) := by decide +kernel
theorem dX1_placeBehind_1 : decode cX1_placeBehind 1 = .ok (.getfield 18, 3) := by decide +kernel
theorem dX1_placeBehind_4 : decode cX1_placeBehind 4 = .ok (.iload_n 1, 1) := by decide +kernel
theorem dX1_placeBehind_5 : decode cX1_placeBehind 5 = .ok (.bipush 12, 2) := by decide +kernel
theorem dX1_placeBehind_7 : decode cX1_placeBehind 7 = .ok (.imul, 1) := by decide +kernel
theorem dX1_placeBehind_8 : decode cX1_placeBehind 8 = .ok (.iload_n 2, 1) := by decide +kernel
theorem dX1_placeBehind_9 : decode cX1_placeBehind 9 = .ok (.iadd, 1) := by decide +kernel
theorem dX1_placeBehind_10 : decode cX1_placeBehind 10 = .ok (.iaload, 1) := by decide +kernel
theorem dX1_placeBehind_11 : decode cX1_placeBehind 11 = .ok (.ireturn, 1) := by decide +kernel
theorem dX1_layInOrder_0 : decode cX1_layInOrder 0 = .ok (.iconst 0, 1) := by decide +kernel
theorem dX1_layInOrder_1 : decode cX1_layInOrder 1 = .ok (.istore_n 1, 1) := by decide +kernel
theorem dX1_layInOrder_2 : decode cX1_layInOrder 2 = .ok (.iload_n 1, 1) := by decide +kernel
theorem dX1_layInOrder_3 : decode cX1_layInOrder 3 = .ok (.aload_n 0, 1) := by decide +kernel
theorem dX1_layInOrder_4 : decode cX1_layInOrder 4 = .ok (.getfield 33, 3) := by decide +kernel
theorem dX1_layInOrder_7 : decode cX1_layInOrder 7 = .ok (.if_icmp .ge 16, 3) := by decide +kernel
theorem dX1_layInOrder_10 : decode cX1_layInOrder 10 = .ok (.aload_n 0, 1) := by decide +kernel
theorem dX1_layInOrder_11 : decode cX1_layInOrder 11 = .ok (.getfield 21, 3) := by decide +kernel
theorem dX1_layInOrder_14 : decode cX1_layInOrder 14 = .ok (.iload_n 1, 1) := by decide +kernel
theorem dX1_layInOrder_15 : decode cX1_layInOrder 15 = .ok (.iload_n 1, 1) := by decide +kernel
theorem dX1_layInOrder_16 : decode cX1_layInOrder 16 = .ok (.iastore, 1) := by decide +kernel
theorem dX1_layInOrder_17 : decode cX1_layInOrder 17 = .ok (.iinc 1 1, 3) := by decide +kernel
theorem dX1_layInOrder_20 : decode cX1_layInOrder 20 = .ok (.goto (-18), 3) := by decide +kernel
theorem dX1_layInOrder_23 : decode cX1_layInOrder 23 = .ok (.return_, 1) := by decide +kernel
theorem dX1_placeOf_0 : decode cX1_placeOf 0 = .ok (.iconst 0, 1) := by decide +kernel
theorem dX1_placeOf_1 : decode cX1_placeOf 1 = .ok (.istore_n 2, 1) := by decide +kernel
theorem dX1_placeOf_2 : decode cX1_placeOf 2 = .ok (.iload_n 2, 1) := by decide +kernel
theorem dX1_placeOf_3 : decode cX1_placeOf 3 = .ok (.aload_n 0, 1) := by decide +kernel
theorem dX1_placeOf_4 : decode cX1_placeOf 4 = .ok (.getfield 33, 3) := by decide +kernel
theorem dX1_placeOf_7 : decode cX1_placeOf 7 = .ok (.if_icmp .ge 21, 3) := by decide +kernel
theorem dX1_placeOf_10 : decode cX1_placeOf 10 = .ok (.aload_n 0, 1) := by decide +kernel
theorem dX1_placeOf_11 : decode cX1_placeOf 11 = .ok (.getfield 21, 3) := by decide +kernel
theorem dX1_placeOf_14 : decode cX1_placeOf 14 = .ok (.iload_n 2, 1) := by decide +kernel
theorem dX1_placeOf_15 : decode cX1_placeOf 15 = .ok (.iaload, 1) := by decide +kernel
theorem dX1_placeOf_16 : decode cX1_placeOf 16 = .ok (.iload_n 1, 1) := by decide +kernel
theorem dX1_placeOf_17 : decode cX1_placeOf 17 = .ok (.if_icmp .ne 5, 3) := by decide +kernel
theorem dX1_placeOf_20 : decode cX1_placeOf 20 = .ok (.iload_n 2, 1) := by decide +kernel
theorem dX1_placeOf_21 : decode cX1_placeOf 21 = .ok (.ireturn, 1) := by decide +kernel
theorem dX1_placeOf_22 : decode cX1_placeOf 22 = .ok (.iinc 2 1, 3) := by decide +kernel
theorem dX1_placeOf_25 : decode cX1_placeOf 25 = .ok (.goto (-23), 3) := by decide +kernel
theorem dX1_placeOf_28 : decode cX1_placeOf 28 = .ok (.iconst 0, 1) := by decide +kernel
theorem dX1_placeOf_29 : decode cX1_placeOf 29 = .ok (.ireturn, 1) := by decide +kernel
theorem dX1_asAtFirst_0 : decode cX1_asAtFirst 0 = .ok (.iconst 0, 1) := by decide +kernel
theorem dX1_asAtFirst_1 : decode cX1_asAtFirst 1 = .ok (.istore_n 1, 1) := by decide +kernel
theorem dX1_asAtFirst_2 : decode cX1_asAtFirst 2 = .ok (.iconst 0, 1) := by decide +kernel
theorem dX1_asAtFirst_3 : decode cX1_asAtFirst 3 = .ok (.istore_n 2, 1) := by decide +kernel
theorem dX1_asAtFirst_4 : decode cX1_asAtFirst 4 = .ok (.iload_n 2, 1) := by decide +kernel
theorem dX1_asAtFirst_5 : decode cX1_asAtFirst 5 = .ok (.aload_n 0, 1) := by decide +kernel
theorem dX1_asAtFirst_6 : decode cX1_asAtFirst 6 = .ok (.getfield 33, 3) := by decide +kernel
theorem dX1_asAtFirst_9 : decode cX1_asAtFirst 9 = .ok (.if_icmp .ge 22, 3) := by decide +kernel
theorem dX1_asAtFirst_12 : decode cX1_asAtFirst 12 = .ok (.aload_n 0, 1) := by decide +kernel
theorem dX1_asAtFirst_13 : decode cX1_asAtFirst 13 = .ok (.getfield 21, 3) := by decide +kernel
theorem dX1_asAtFirst_16 : decode cX1_asAtFirst 16 = .ok (.iload_n 2, 1) := by decide +kernel
theorem dX1_asAtFirst_17 : decode cX1_asAtFirst 17 = .ok (.iaload, 1) := by decide +kernel
theorem dX1_asAtFirst_18 : decode cX1_asAtFirst 18 = .ok (.iload_n 2, 1) := by decide +kernel
theorem dX1_asAtFirst_19 : decode cX1_asAtFirst 19 = .ok (.if_icmp .ne 6, 3) := by decide +kernel
theorem dX1_asAtFirst_22 : decode cX1_asAtFirst 22 = .ok (.iinc 1 1, 3) := by decide +kernel
theorem dX1_asAtFirst_25 : decode cX1_asAtFirst 25 = .ok (.iinc 2 1, 3) := by decide +kernel
theorem dX1_asAtFirst_28 : decode cX1_asAtFirst 28 = .ok (.goto (-24), 3) := by decide +kernel
theorem dX1_asAtFirst_31 : decode cX1_asAtFirst 31 = .ok (.iload_n 1, 1) := by decide +kernel
theorem dX1_asAtFirst_32 : decode cX1_asAtFirst 32 = .ok (.ireturn, 1) := by decide +kernel
theorem dX1_asAtFirstBehind_0 : decode cX1_asAtFirstBehind 0 = .ok (.iconst 0, 1) := by decide +kernel
theorem dX1_asAtFirstBehind_1 : decode cX1_asAtFirstBehind 1 = .ok (.istore_n 2, 1) := by decide +kernel
theorem dX1_asAtFirstBehind_2 : decode cX1_asAtFirstBehind 2 = .ok (.iconst 0, 1) := by decide +kernel
theorem dX1_asAtFirstBehind_3 : decode cX1_asAtFirstBehind 3 = .ok (.istore_n 3, 1) := by decide +kernel
theorem dX1_asAtFirstBehind_4 : decode cX1_asAtFirstBehind 4 = .ok (.iload_n 3, 1) := by decide +kernel
theorem dX1_asAtFirstBehind_5 : decode cX1_asAtFirstBehind 5 = .ok (.aload_n 0, 1) := by decide +kernel
theorem dX1_asAtFirstBehind_6 : decode cX1_asAtFirstBehind 6 = .ok (.getfield 33, 3) := by decide +kernel
theorem dX1_asAtFirstBehind_9 : decode cX1_asAtFirstBehind 9 = .ok (.if_icmp .ge 27, 3) := by decide +kernel
theorem dX1_asAtFirstBehind_12 : decode cX1_asAtFirstBehind 12 = .ok (.aload_n 0, 1) := by decide +kernel
theorem dX1_asAtFirstBehind_13 : decode cX1_asAtFirstBehind 13 = .ok (.getfield 21, 3) := by decide +kernel
theorem dX1_asAtFirstBehind_16 : decode cX1_asAtFirstBehind 16 = .ok (.iload_n 3, 1) := by decide +kernel
theorem dX1_asAtFirstBehind_17 : decode cX1_asAtFirstBehind 17 = .ok (.iaload, 1) := by decide +kernel
theorem dX1_asAtFirstBehind_18 : decode cX1_asAtFirstBehind 18 = .ok (.aload_n 1, 1) := by decide +kernel
theorem dX1_asAtFirstBehind_19 : decode cX1_asAtFirstBehind 19 = .ok (.getfield 59, 3) := by decide +kernel
theorem dX1_asAtFirstBehind_22 : decode cX1_asAtFirstBehind 22 = .ok (.iload_n 3, 1) := by decide +kernel
theorem dX1_asAtFirstBehind_23 : decode cX1_asAtFirstBehind 23 = .ok (.iaload, 1) := by decide +kernel
theorem dX1_asAtFirstBehind_24 : decode cX1_asAtFirstBehind 24 = .ok (.if_icmp .ne 6, 3) := by decide +kernel
theorem dX1_asAtFirstBehind_27 : decode cX1_asAtFirstBehind 27 = .ok (.iinc 2 1, 3) := by decide +kernel
theorem dX1_asAtFirstBehind_30 : decode cX1_asAtFirstBehind 30 = .ok (.iinc 3 1, 3) := by decide +kernel
theorem dX1_asAtFirstBehind_33 : decode cX1_asAtFirstBehind 33 = .ok (.goto (-29), 3) := by decide +kernel
theorem dX1_asAtFirstBehind_36 : decode cX1_asAtFirstBehind 36 = .ok (.iload_n 2, 1) := by decide +kernel
theorem dX1_asAtFirstBehind_37 : decode cX1_asAtFirstBehind 37 = .ok (.ireturn, 1) := by decide +kernel
theorem dX1_topBehind_0 : decode cX1_topBehind 0 = .ok (.iconst 0, 1) := by decide +kernel
theorem dX1_topBehind_1 : decode cX1_topBehind 1 = .ok (.istore_n 2, 1) := by decide +kernel
theorem dX1_topBehind_2 : decode cX1_topBehind 2 = .ok (.iload_n 2, 1) := by decide +kernel
theorem dX1_topBehind_3 : decode cX1_topBehind 3 = .ok (.aload_n 0, 1) := by decide +kernel
theorem dX1_topBehind_4 : decode cX1_topBehind 4 = .ok (.getfield 33, 3) := by decide +kernel
theorem dX1_topBehind_7 : decode cX1_topBehind 7 = .ok (.if_icmp .ge 25, 3) := by decide +kernel
theorem dX1_topBehind_10 : decode cX1_topBehind 10 = .ok (.aload_n 1, 1) := by decide +kernel
theorem dX1_topBehind_11 : decode cX1_topBehind 11 = .ok (.getfield 59, 3) := by decide +kernel
theorem dX1_topBehind_14 : decode cX1_topBehind 14 = .ok (.iload_n 2, 1) := by decide +kernel
theorem dX1_topBehind_15 : decode cX1_topBehind 15 = .ok (.iaload, 1) := by decide +kernel
theorem dX1_topBehind_16 : decode cX1_topBehind 16 = .ok (.ifCond .ne 10, 3) := by decide +kernel
theorem dX1_topBehind_19 : decode cX1_topBehind 19 = .ok (.aload_n 0, 1) := by decide +kernel
theorem dX1_topBehind_20 : decode cX1_topBehind 20 = .ok (.getfield 21, 3) := by decide +kernel
theorem dX1_topBehind_23 : decode cX1_topBehind 23 = .ok (.iload_n 2, 1) := by decide +kernel
theorem dX1_topBehind_24 : decode cX1_topBehind 24 = .ok (.iaload, 1) := by decide +kernel
theorem dX1_topBehind_25 : decode cX1_topBehind 25 = .ok (.ireturn, 1) := by decide +kernel
theorem dX1_topBehind_26 : decode cX1_topBehind 26 = .ok (.iinc 2 1, 3) := by decide +kernel
theorem dX1_topBehind_29 : decode cX1_topBehind 29 = .ok (.goto (-27), 3) := by decide +kernel
theorem dX1_topBehind_32 : decode cX1_topBehind 32 = .ok (.iconst (-1), 1) := by decide +kernel
theorem dX1_topBehind_33 : decode cX1_topBehind 33 = .ok (.ireturn, 1) := by decide +kernel
theorem dX1_wrongTwos_0 : decode cX1_wrongTwos 0 = .ok (.iconst 0, 1) := by decide +kernel
theorem dX1_wrongTwos_1 : decode cX1_wrongTwos 1 = .ok (.istore_n 1, 1) := by decide +kernel
theorem dX1_wrongTwos_2 : decode cX1_wrongTwos 2 = .ok (.iconst 1, 1) := by decide +kernel
theorem dX1_wrongTwos_3 : decode cX1_wrongTwos 3 = .ok (.istore_n 2, 1) := by decide +kernel
theorem dX1_wrongTwos_4 : decode cX1_wrongTwos 4 = .ok (.iload_n 2, 1) := by decide +kernel
theorem dX1_wrongTwos_5 : decode cX1_wrongTwos 5 = .ok (.aload_n 0, 1) := by decide +kernel
theorem dX1_wrongTwos_6 : decode cX1_wrongTwos 6 = .ok (.getfield 33, 3) := by decide +kernel
theorem dX1_wrongTwos_9 : decode cX1_wrongTwos 9 = .ok (.if_icmp .ge 40, 3) := by decide +kernel
theorem dX1_wrongTwos_12 : decode cX1_wrongTwos 12 = .ok (.iconst 0, 1) := by decide +kernel
theorem dX1_wrongTwos_13 : decode cX1_wrongTwos 13 = .ok (.istore_n 3, 1) := by decide +kernel
theorem dX1_wrongTwos_14 : decode cX1_wrongTwos 14 = .ok (.iload_n 3, 1) := by decide +kernel
theorem dX1_wrongTwos_15 : decode cX1_wrongTwos 15 = .ok (.iload_n 2, 1) := by decide +kernel
theorem dX1_wrongTwos_16 : decode cX1_wrongTwos 16 = .ok (.if_icmp .ge 27, 3) := by decide +kernel
theorem dX1_wrongTwos_19 : decode cX1_wrongTwos 19 = .ok (.aload_n 0, 1) := by decide +kernel
theorem dX1_wrongTwos_20 : decode cX1_wrongTwos 20 = .ok (.getfield 21, 3) := by decide +kernel
theorem dX1_wrongTwos_23 : decode cX1_wrongTwos 23 = .ok (.iload_n 3, 1) := by decide +kernel
theorem dX1_wrongTwos_24 : decode cX1_wrongTwos 24 = .ok (.iaload, 1) := by decide +kernel
theorem dX1_wrongTwos_25 : decode cX1_wrongTwos 25 = .ok (.aload_n 0, 1) := by decide +kernel
theorem dX1_wrongTwos_26 : decode cX1_wrongTwos 26 = .ok (.getfield 21, 3) := by decide +kernel
theorem dX1_wrongTwos_29 : decode cX1_wrongTwos 29 = .ok (.iload_n 2, 1) := by decide +kernel
theorem dX1_wrongTwos_30 : decode cX1_wrongTwos 30 = .ok (.iaload, 1) := by decide +kernel
theorem dX1_wrongTwos_31 : decode cX1_wrongTwos 31 = .ok (.if_icmp .le 6, 3) := by decide +kernel
theorem dX1_wrongTwos_34 : decode cX1_wrongTwos 34 = .ok (.iinc 1 1, 3) := by decide +kernel
theorem dX1_wrongTwos_37 : decode cX1_wrongTwos 37 = .ok (.iinc 3 1, 3) := by decide +kernel
theorem dX1_wrongTwos_40 : decode cX1_wrongTwos 40 = .ok (.goto (-26), 3) := by decide +kernel
theorem dX1_wrongTwos_43 : decode cX1_wrongTwos 43 = .ok (.iinc 2 1, 3) := by decide +kernel
theorem dX1_wrongTwos_46 : decode cX1_wrongTwos 46 = .ok (.goto (-42), 3) := by decide +kernel
theorem dX1_wrongTwos_49 : decode cX1_wrongTwos 49 = .ok (.iload_n 1, 1) := by decide +kernel
theorem dX1_wrongTwos_50 : decode cX1_wrongTwos 50 = .ok (.ireturn, 1) := by decide +kernel
theorem dX1_addSeen_0 : decode cX1_addSeen 0 = .ok (.aload_n 0, 1) := by decide +kernel
theorem dX1_addSeen_1 : decode cX1_addSeen 1 = .ok (.getfield 43, 3) := by decide +kernel
theorem dX1_addSeen_4 : decode cX1_addSeen 4 = .ok (.bipush 6, 2) := by decide +kernel
theorem dX1_addSeen_6 : decode cX1_addSeen 6 = .ok (.if_icmp .ge 43, 3) := by decide +kernel
theorem dX1_addSeen_9 : decode cX1_addSeen 9 = .ok (.aload_n 0, 1) := by decide +kernel
theorem dX1_addSeen_10 : decode cX1_addSeen 10 = .ok (.getfield 24, 3) := by decide +kernel
theorem dX1_addSeen_13 : decode cX1_addSeen 13 = .ok (.aload_n 0, 1) := by decide +kernel
theorem dX1_addSeen_14 : decode cX1_addSeen 14 = .ok (.getfield 43, 3) := by decide +kernel
theorem dX1_addSeen_17 : decode cX1_addSeen 17 = .ok (.iload_n 1, 1) := by decide +kernel
theorem dX1_addSeen_18 : decode cX1_addSeen 18 = .ok (.iastore, 1) := by decide +kernel
theorem dX1_addSeen_19 : decode cX1_addSeen 19 = .ok (.aload_n 0, 1) := by decide +kernel
theorem dX1_addSeen_20 : decode cX1_addSeen 20 = .ok (.getfield 27, 3) := by decide +kernel
theorem dX1_addSeen_23 : decode cX1_addSeen 23 = .ok (.aload_n 0, 1) := by decide +kernel
theorem dX1_addSeen_24 : decode cX1_addSeen 24 = .ok (.getfield 43, 3) := by decide +kernel
theorem dX1_addSeen_27 : decode cX1_addSeen 27 = .ok (.iload_n 2, 1) := by decide +kernel
theorem dX1_addSeen_28 : decode cX1_addSeen 28 = .ok (.iastore, 1) := by decide +kernel
theorem dX1_addSeen_29 : decode cX1_addSeen 29 = .ok (.aload_n 0, 1) := by decide +kernel
theorem dX1_addSeen_30 : decode cX1_addSeen 30 = .ok (.getfield 30, 3) := by decide +kernel
theorem dX1_addSeen_33 : decode cX1_addSeen 33 = .ok (.aload_n 0, 1) := by decide +kernel
theorem dX1_addSeen_34 : decode cX1_addSeen 34 = .ok (.getfield 43, 3) := by decide +kernel
theorem dX1_addSeen_37 : decode cX1_addSeen 37 = .ok (.iload_n 3, 1) := by decide +kernel
theorem dX1_addSeen_38 : decode cX1_addSeen 38 = .ok (.iastore, 1) := by decide +kernel
theorem dX1_addSeen_39 : decode cX1_addSeen 39 = .ok (.aload_n 0, 1) := by decide +kernel
theorem dX1_addSeen_40 : decode cX1_addSeen 40 = .ok (.dup, 1) := by decide +kernel
theorem dX1_addSeen_41 : decode cX1_addSeen 41 = .ok (.getfield 43, 3) := by decide +kernel
theorem dX1_addSeen_44 : decode cX1_addSeen 44 = .ok (.iconst 1, 1) := by decide +kernel
theorem dX1_addSeen_45 : decode cX1_addSeen 45 = .ok (.iadd, 1) := by decide +kernel
theorem dX1_addSeen_46 : decode cX1_addSeen 46 = .ok (.putfield 43, 3) := by decide +kernel
theorem dX1_addSeen_49 : decode cX1_addSeen 49 = .ok (.return_, 1) := by decide +kernel
theorem dX1_possibleNumbers_0 : decode cX1_possibleNumbers 0 = .ok (.iconst 0, 1) := by decide +kernel
theorem dX1_possibleNumbers_1 : decode cX1_possibleNumbers 1 = .ok (.istore_n 2, 1) := by decide +kernel
theorem dX1_possibleNumbers_2 : decode cX1_possibleNumbers 2 = .ok (.iconst 0, 1) := by decide +kernel
theorem dX1_possibleNumbers_3 : decode cX1_possibleNumbers 3 = .ok (.istore_n 3, 1) := by decide +kernel
theorem dX1_possibleNumbers_4 : decode cX1_possibleNumbers 4 = .ok (.iload_n 3, 1) := by decide +kernel
theorem dX1_possibleNumbers_5 : decode cX1_possibleNumbers 5 = .ok (.bipush 10, 2) := by decide +kernel
theorem dX1_possibleNumbers_7 : decode cX1_possibleNumbers 7 = .ok (.if_icmp .ge 24, 3) := by decide +kernel
theorem dX1_possibleNumbers_10 : decode cX1_possibleNumbers 10 = .ok (.aload_n 0, 1) := by decide +kernel
theorem dX1_possibleNumbers_11 : decode cX1_possibleNumbers 11 = .ok (.iload_n 1, 1) := by decide +kernel
theorem dX1_possibleNumbers_12 : decode cX1_possibleNumbers 12 = .ok (.iload_n 3, 1) := by decide +kernel
theorem dX1_possibleNumbers_13 : decode cX1_possibleNumbers 13 = .ok (.invokevirtual 64, 3) := by decide +kernel
theorem dX1_possibleNumbers_16 : decode cX1_possibleNumbers 16 = .ok (.ifCond .eq 9, 3) := by decide +kernel
theorem dX1_possibleNumbers_19 : decode cX1_possibleNumbers 19 = .ok (.iload_n 2, 1) := by decide +kernel
theorem dX1_possibleNumbers_20 : decode cX1_possibleNumbers 20 = .ok (.iconst 1, 1) := by decide +kernel
theorem dX1_possibleNumbers_21 : decode cX1_possibleNumbers 21 = .ok (.iload_n 3, 1) := by decide +kernel
theorem dX1_possibleNumbers_22 : decode cX1_possibleNumbers 22 = .ok (.ishl, 1) := by decide +kernel
theorem dX1_possibleNumbers_23 : decode cX1_possibleNumbers 23 = .ok (.ior, 1) := by decide +kernel
theorem dX1_possibleNumbers_24 : decode cX1_possibleNumbers 24 = .ok (.istore_n 2, 1) := by decide +kernel
theorem dX1_possibleNumbers_25 : decode cX1_possibleNumbers 25 = .ok (.iinc 3 1, 3) := by decide +kernel
theorem dX1_possibleNumbers_28 : decode cX1_possibleNumbers 28 = .ok (.goto (-24), 3) := by decide +kernel
theorem dX1_possibleNumbers_31 : decode cX1_possibleNumbers 31 = .ok (.iload_n 2, 1) := by decide +kernel
theorem dX1_possibleNumbers_32 : decode cX1_possibleNumbers 32 = .ok (.ireturn, 1) := by decide +kernel
theorem dX1_agreesWithSeen_0 : decode cX1_agreesWithSeen 0 = .ok (.iconst 0, 1) := by decide +kernel
theorem dX1_agreesWithSeen_1 : decode cX1_agreesWithSeen 1 = .ok (.istore_n 3, 1) := by decide +kernel
theorem dX1_agreesWithSeen_2 : decode cX1_agreesWithSeen 2 = .ok (.iload_n 3, 1) := by decide +kernel
theorem dX1_agreesWithSeen_3 : decode cX1_agreesWithSeen 3 = .ok (.aload_n 0, 1) := by decide +kernel
theorem dX1_agreesWithSeen_4 : decode cX1_agreesWithSeen 4 = .ok (.getfield 43, 3) := by decide +kernel
theorem dX1_agreesWithSeen_7 : decode cX1_agreesWithSeen 7 = .ok (.if_icmp .ge 50, 3) := by decide +kernel
theorem dX1_agreesWithSeen_10 : decode cX1_agreesWithSeen 10 = .ok (.aload_n 0, 1) := by decide +kernel
theorem dX1_agreesWithSeen_11 : decode cX1_agreesWithSeen 11 = .ok (.getfield 24, 3) := by decide +kernel
theorem dX1_agreesWithSeen_14 : decode cX1_agreesWithSeen 14 = .ok (.iload_n 3, 1) := by decide +kernel
theorem dX1_agreesWithSeen_15 : decode cX1_agreesWithSeen 15 = .ok (.iaload, 1) := by decide +kernel
theorem dX1_agreesWithSeen_16 : decode cX1_agreesWithSeen 16 = .ok (.iload_n 1, 1) := by decide +kernel
theorem dX1_agreesWithSeen_17 : decode cX1_agreesWithSeen 17 = .ok (.if_icmp .ne 34, 3) := by decide +kernel
theorem dX1_agreesWithSeen_20 : decode cX1_agreesWithSeen 20 = .ok (.aload_n 0, 1) := by decide +kernel
theorem dX1_agreesWithSeen_21 : decode cX1_agreesWithSeen 21 = .ok (.getfield 9, 3) := by decide +kernel
theorem dX1_agreesWithSeen_24 : decode cX1_agreesWithSeen 24 = .ok (.iload_n 1, 1) := by decide +kernel
theorem dX1_agreesWithSeen_25 : decode cX1_agreesWithSeen 25 = .ok (.iaload, 1) := by decide +kernel
theorem dX1_agreesWithSeen_26 : decode cX1_agreesWithSeen 26 = .ok (.iload_n 2, 1) := by decide +kernel
theorem dX1_agreesWithSeen_27 : decode cX1_agreesWithSeen 27 = .ok (.aload_n 0, 1) := by decide +kernel
theorem dX1_agreesWithSeen_28 : decode cX1_agreesWithSeen 28 = .ok (.getfield 33, 3) := by decide +kernel
theorem dX1_agreesWithSeen_31 : decode cX1_agreesWithSeen 31 = .ok (.aload_n 0, 1) := by decide +kernel
theorem dX1_agreesWithSeen_32 : decode cX1_agreesWithSeen 32 = .ok (.getfield 27, 3) := by decide +kernel
theorem dX1_agreesWithSeen_35 : decode cX1_agreesWithSeen 35 = .ok (.iload_n 3, 1) := by decide +kernel
theorem dX1_agreesWithSeen_36 : decode cX1_agreesWithSeen 36 = .ok (.iaload, 1) := by decide +kernel
theorem dX1_agreesWithSeen_37 : decode cX1_agreesWithSeen 37 = .ok (.invokestatic 55, 3) := by decide +kernel
theorem dX1_agreesWithSeen_40 : decode cX1_agreesWithSeen 40 = .ok (.aload_n 0, 1) := by decide +kernel
theorem dX1_agreesWithSeen_41 : decode cX1_agreesWithSeen 41 = .ok (.getfield 30, 3) := by decide +kernel
theorem dX1_agreesWithSeen_44 : decode cX1_agreesWithSeen 44 = .ok (.iload_n 3, 1) := by decide +kernel
theorem dX1_agreesWithSeen_45 : decode cX1_agreesWithSeen 45 = .ok (.iaload, 1) := by decide +kernel
theorem dX1_agreesWithSeen_46 : decode cX1_agreesWithSeen 46 = .ok (.if_icmp .eq 5, 3) := by decide +kernel
theorem dX1_agreesWithSeen_49 : decode cX1_agreesWithSeen 49 = .ok (.iconst 0, 1) := by decide +kernel
theorem dX1_agreesWithSeen_50 : decode cX1_agreesWithSeen 50 = .ok (.ireturn, 1) := by decide +kernel
theorem dX1_agreesWithSeen_51 : decode cX1_agreesWithSeen 51 = .ok (.iinc 3 1, 3) := by decide +kernel
theorem dX1_agreesWithSeen_54 : decode cX1_agreesWithSeen 54 = .ok (.goto (-52), 3) := by decide +kernel
theorem dX1_agreesWithSeen_57 : decode cX1_agreesWithSeen 57 = .ok (.iconst 1, 1) := by decide +kernel
theorem dX1_agreesWithSeen_58 : decode cX1_agreesWithSeen 58 = .ok (.ireturn, 1) := by decide +kernel
theorem dX2_init_0 : decode cX2_init 0 = .ok (.aload_n 0, 1) := by decide +kernel
theorem dX2_init_1 : decode cX2_init 1 = .ok (.invokespecial 3, 3) := by decide +kernel
theorem dX2_init_4 : decode cX2_init 4 = .ok (.aload_n 0, 1) := by decide +kernel
theorem dX2_init_5 : decode cX2_init 5 = .ok (.bipush 12, 2) := by decide +kernel
theorem dX2_init_7 : decode cX2_init 7 = .ok (.newarray .int, 2) := by decide +kernel
theorem dX2_init_9 : decode cX2_init 9 = .ok (.putfield 9, 3) := by decide +kernel
theorem dX2_init_12 : decode cX2_init 12 = .ok (.return_, 1) := by decide +kernel
theorem dX2_begin_0 : decode cX2_begin 0 = .ok (.aload_n 0, 1) := by decide +kernel
theorem dX2_begin_1 : decode cX2_begin 1 = .ok (.iload_n 1, 1) := by decide +kernel
theorem dX2_begin_2 : decode cX2_begin 2 = .ok (.putfield 15, 3) := by decide +kernel
theorem dX2_begin_5 : decode cX2_begin 5 = .ok (.iconst 0, 1) := by decide +kernel
theorem dX2_begin_6 : decode cX2_begin 6 = .ok (.istore_n 2, 1) := by decide +kernel
theorem dX2_begin_7 : decode cX2_begin 7 = .ok (.iload_n 2, 1) := by decide +kernel
theorem dX2_begin_8 : decode cX2_begin 8 = .ok (.aload_n 0, 1) := by decide +kernel
theorem dX2_begin_9 : decode cX2_begin 9 = .ok (.getfield 15, 3) := by decide +kernel
theorem dX2_begin_12 : decode cX2_begin 12 = .ok (.if_icmp .ge 16, 3) := by decide +kernel
theorem dX2_begin_15 : decode cX2_begin 15 = .ok (.aload_n 0, 1) := by decide +kernel
theorem dX2_begin_16 : decode cX2_begin 16 = .ok (.getfield 9, 3) := by decide +kernel
theorem dX2_begin_19 : decode cX2_begin 19 = .ok (.iload_n 2, 1) := by decide +kernel
theorem dX2_begin_20 : decode cX2_begin 20 = .ok (.iload_n 2, 1) := by decide +kernel
theorem dX2_begin_21 : decode cX2_begin 21 = .ok (.iastore, 1) := by decide +kernel
theorem dX2_begin_22 : decode cX2_begin 22 = .ok (.iinc 2 1, 3) := by decide +kernel
theorem dX2_begin_25 : decode cX2_begin 25 = .ok (.goto (-18), 3) := by decide +kernel
theorem dX2_begin_28 : decode cX2_begin 28 = .ok (.return_, 1) := by decide +kernel
theorem dX2_add_0 : decode cX2_add 0 = .ok (.iconst 0, 1) := by decide +kernel
theorem dX2_add_1 : decode cX2_add 1 = .ok (.istore_n 3, 1) := by decide +kernel
theorem dX2_add_2 : decode cX2_add 2 = .ok (.iload_n 3, 1) := by decide +kernel
theorem dX2_add_3 : decode cX2_add 3 = .ok (.aload_n 0, 1) := by decide +kernel
theorem dX2_add_4 : decode cX2_add 4 = .ok (.getfield 15, 3) := by decide +kernel
theorem dX2_add_7 : decode cX2_add 7 = .ok (.if_icmp .ge 26, 3) := by decide +kernel
theorem dX2_add_10 : decode cX2_add 10 = .ok (.aload_n 0, 1) := by decide +kernel
theorem dX2_add_11 : decode cX2_add 11 = .ok (.getfield 9, 3) := by decide +kernel
theorem dX2_add_14 : decode cX2_add 14 = .ok (.iload_n 3, 1) := by decide +kernel
theorem dX2_add_15 : decode cX2_add 15 = .ok (.aload_n 1, 1) := by decide +kernel
theorem dX2_add_16 : decode cX2_add 16 = .ok (.iload_n 2, 1) := by decide +kernel
theorem dX2_add_17 : decode cX2_add 17 = .ok (.aload_n 0, 1) := by decide +kernel
theorem dX2_add_18 : decode cX2_add 18 = .ok (.getfield 9, 3) := by decide +kernel
theorem dX2_add_21 : decode cX2_add 21 = .ok (.iload_n 3, 1) := by decide +kernel
theorem dX2_add_22 : decode cX2_add 22 = .ok (.iaload, 1) := by decide +kernel
theorem dX2_add_23 : decode cX2_add 23 = .ok (.invokevirtual 19, 3) := by decide +kernel
theorem dX2_add_26 : decode cX2_add 26 = .ok (.iastore, 1) := by decide +kernel
theorem dX2_add_27 : decode cX2_add 27 = .ok (.iinc 3 1, 3) := by decide +kernel
theorem dX2_add_30 : decode cX2_add 30 = .ok (.goto (-28), 3) := by decide +kernel
theorem dX2_add_33 : decode cX2_add 33 = .ok (.return_, 1) := by decide +kernel
theorem dX2_stayCount_0 : decode cX2_stayCount 0 = .ok (.iconst 0, 1) := by decide +kernel
theorem dX2_stayCount_1 : decode cX2_stayCount 1 = .ok (.istore_n 1, 1) := by decide +kernel
theorem dX2_stayCount_2 : decode cX2_stayCount 2 = .ok (.iconst 0, 1) := by decide +kernel
theorem dX2_stayCount_3 : decode cX2_stayCount 3 = .ok (.istore_n 2, 1) := by decide +kernel
theorem dX2_stayCount_4 : decode cX2_stayCount 4 = .ok (.iload_n 2, 1) := by decide +kernel
theorem dX2_stayCount_5 : decode cX2_stayCount 5 = .ok (.aload_n 0, 1) := by decide +kernel
theorem dX2_stayCount_6 : decode cX2_stayCount 6 = .ok (.getfield 15, 3) := by decide +kernel
theorem dX2_stayCount_9 : decode cX2_stayCount 9 = .ok (.if_icmp .ge 22, 3) := by decide +kernel
theorem dX2_stayCount_12 : decode cX2_stayCount 12 = .ok (.aload_n 0, 1) := by decide +kernel
theorem dX2_stayCount_13 : decode cX2_stayCount 13 = .ok (.getfield 9, 3) := by decide +kernel
theorem dX2_stayCount_16 : decode cX2_stayCount 16 = .ok (.iload_n 2, 1) := by decide +kernel
theorem dX2_stayCount_17 : decode cX2_stayCount 17 = .ok (.iaload, 1) := by decide +kernel
theorem dX2_stayCount_18 : decode cX2_stayCount 18 = .ok (.iload_n 2, 1) := by decide +kernel
theorem dX2_stayCount_19 : decode cX2_stayCount 19 = .ok (.if_icmp .ne 6, 3) := by decide +kernel
theorem dX2_stayCount_22 : decode cX2_stayCount 22 = .ok (.iinc 1 1, 3) := by decide +kernel
theorem dX2_stayCount_25 : decode cX2_stayCount 25 = .ok (.iinc 2 1, 3) := by decide +kernel
theorem dX2_stayCount_28 : decode cX2_stayCount 28 = .ok (.goto (-24), 3) := by decide +kernel
theorem dX2_stayCount_31 : decode cX2_stayCount 31 = .ok (.iload_n 1, 1) := by decide +kernel
theorem dX2_stayCount_32 : decode cX2_stayCount 32 = .ok (.ireturn, 1) := by decide +kernel
