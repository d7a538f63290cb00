theorem dX4_byDeal_10 : decode cX4_byDeal 10 = .ok (.getfield 86, 3) := by decide +kernel
theorem dX4_byDeal_13 : decode cX4_byDeal 13 = .ok (.if_icmp .le 10, 3) := by decide +kernel
theorem dX4_byDeal_16 : decode cX4_byDeal 16 = .ok (.aload_n 0, 1) := by decide +kernel
theorem dX4_byDeal_17 : decode cX4_byDeal 17 = .ok (.getfield 86, 3) := by decide +kernel
theorem dX4_byDeal_20 : decode cX4_byDeal 20 = .ok (.goto 4, 3) := by decide +kernel
theorem dX4_byDeal_23 : decode cX4_byDeal 23 = .ok (.iload_n 1, 1) := by decide +kernel
theorem dX4_byDeal_24 : decode cX4_byDeal 24 = .ok (.istore 4, 2) := by decide +kernel
theorem dX4_byDeal_26 : decode cX4_byDeal 26 = .ok (.iload_n 2, 1) := by decide +kernel
theorem dX4_byDeal_27 : decode cX4_byDeal 27 = .ok (.iload 4, 2) := by decide +kernel
theorem dX4_byDeal_29 : decode cX4_byDeal 29 = .ok (.irem, 1) := by decide +kernel
theorem dX4_byDeal_30 : decode cX4_byDeal 30 = .ok (.istore 5, 2) := by decide +kernel
theorem dX4_byDeal_32 : decode cX4_byDeal 32 = .ok (.aload_n 0, 1) := by decide +kernel
theorem dX4_byDeal_33 : decode cX4_byDeal 33 = .ok (.iload 4, 2) := by decide +kernel
theorem dX4_byDeal_35 : decode cX4_byDeal 35 = .ok (.iload 5, 2) := by decide +kernel
theorem dX4_byDeal_37 : decode cX4_byDeal 37 = .ok (.invokevirtual 104, 3) := by decide +kernel
theorem dX4_byDeal_40 : decode cX4_byDeal 40 = .ok (.iconst 1, 1) := by decide +kernel
theorem dX4_byDeal_41 : decode cX4_byDeal 41 = .ok (.isub, 1) := by decide +kernel
theorem dX4_byDeal_42 : decode cX4_byDeal 42 = .ok (.iload_n 2, 1) := by decide +kernel
theorem dX4_byDeal_43 : decode cX4_byDeal 43 = .ok (.iload 4, 2) := by decide +kernel
theorem dX4_byDeal_45 : decode cX4_byDeal 45 = .ok (.idiv, 1) := by decide +kernel
theorem dX4_byDeal_46 : decode cX4_byDeal 46 = .ok (.isub, 1) := by decide +kernel
theorem dX4_byDeal_47 : decode cX4_byDeal 47 = .ok (.istore 6, 2) := by decide +kernel
theorem dX4_byDeal_49 : decode cX4_byDeal 49 = .ok (.iconst 0, 1) := by decide +kernel
theorem dX4_byDeal_50 : decode cX4_byDeal 50 = .ok (.istore 7, 2) := by decide +kernel
theorem dX4_byDeal_52 : decode cX4_byDeal 52 = .ok (.iload 7, 2) := by decide +kernel
theorem dX4_byDeal_54 : decode cX4_byDeal 54 = .ok (.iload 4, 2) := by decide +kernel
theorem dX4_byDeal_56 : decode cX4_byDeal 56 = .ok (.if_icmp .ge 64, 3) := by decide +kernel
theorem dX4_byDeal_59 : decode cX4_byDeal 59 = .ok (.iload_n 3, 1) := by decide +kernel
theorem dX4_byDeal_60 : decode cX4_byDeal 60 = .ok (.ifCond .eq 18, 3) := by decide +kernel
theorem dX4_byDeal_63 : decode cX4_byDeal 63 = .ok (.iload 7, 2) := by decide +kernel
theorem dX4_byDeal_65 : decode cX4_byDeal 65 = .ok (.iload 5, 2) := by decide +kernel
theorem dX4_byDeal_67 : decode cX4_byDeal 67 = .ok (.if_icmp .ge 7, 3) := by decide +kernel
theorem dX4_byDeal_70 : decode cX4_byDeal 70 = .ok (.iconst 1, 1) := by decide +kernel
theorem dX4_byDeal_71 : decode cX4_byDeal 71 = .ok (.goto 19, 3) := by decide +kernel
theorem dX4_byDeal_74 : decode cX4_byDeal 74 = .ok (.iconst 0, 1) := by decide +kernel
theorem dX4_byDeal_75 : decode cX4_byDeal 75 = .ok (.goto 15, 3) := by decide +kernel
theorem dX4_byDeal_78 : decode cX4_byDeal 78 = .ok (.iload 7, 2) := by decide +kernel
theorem dX4_byDeal_80 : decode cX4_byDeal 80 = .ok (.iload 5, 2) := by decide +kernel
theorem dX4_byDeal_82 : decode cX4_byDeal 82 = .ok (.if_icmp .le 7, 3) := by decide +kernel
theorem dX4_byDeal_85 : decode cX4_byDeal 85 = .ok (.iconst 1, 1) := by decide +kernel
theorem dX4_byDeal_86 : decode cX4_byDeal 86 = .ok (.goto 4, 3) := by decide +kernel
theorem dX4_byDeal_89 : decode cX4_byDeal 89 = .ok (.iconst 0, 1) := by decide +kernel
theorem dX4_byDeal_90 : decode cX4_byDeal 90 = .ok (.istore 8, 2) := by decide +kernel
theorem dX4_byDeal_92 : decode cX4_byDeal 92 = .ok (.iload 6, 2) := by decide +kernel
theorem dX4_byDeal_94 : decode cX4_byDeal 94 = .ok (.iload 8, 2) := by decide +kernel
theorem dX4_byDeal_96 : decode cX4_byDeal 96 = .ok (.ifCond .eq 14, 3) := by decide +kernel
theorem dX4_byDeal_99 : decode cX4_byDeal 99 = .ok (.aload_n 0, 1) := by decide +kernel
theorem dX4_byDeal_100 : decode cX4_byDeal 100 = .ok (.iload 4, 2) := by decide +kernel
theorem dX4_byDeal_102 : decode cX4_byDeal 102 = .ok (.iload 7, 2) := by decide +kernel
theorem dX4_byDeal_104 : decode cX4_byDeal 104 = .ok (.invokevirtual 104, 3) := by decide +kernel
theorem dX4_byDeal_107 : decode cX4_byDeal 107 = .ok (.goto 4, 3) := by decide +kernel
theorem dX4_byDeal_110 : decode cX4_byDeal 110 = .ok (.iconst 0, 1) := by decide +kernel
theorem dX4_byDeal_111 : decode cX4_byDeal 111 = .ok (.iadd, 1) := by decide +kernel
theorem dX4_byDeal_112 : decode cX4_byDeal 112 = .ok (.istore 6, 2) := by decide +kernel
theorem dX4_byDeal_114 : decode cX4_byDeal 114 = .ok (.iinc 7 1, 3) := by decide +kernel
theorem dX4_byDeal_117 : decode cX4_byDeal 117 = .ok (.goto (-65), 3) := by decide +kernel
theorem dX4_byDeal_120 : decode cX4_byDeal 120 = .ok (.iload 6, 2) := by decide +kernel
theorem dX4_byDeal_122 : decode cX4_byDeal 122 = .ok (.ireturn, 1) := by decide +kernel
theorem dX4_byTurn_0 : decode cX4_byTurn 0 = .ok (.iload_n 1, 1) := by decide +kernel
theorem dX4_byTurn_1 : decode cX4_byTurn 1 = .ok (.aload_n 0, 1) := by decide +kernel
theorem dX4_byTurn_2 : decode cX4_byTurn 2 = .ok (.getfield 86, 3) := by decide +kernel
theorem dX4_byTurn_5 : decode cX4_byTurn 5 = .ok (.if_icmp .ge 7, 3) := by decide +kernel
theorem dX4_byTurn_8 : decode cX4_byTurn 8 = .ok (.iload_n 1, 1) := by decide +kernel
theorem dX4_byTurn_9 : decode cX4_byTurn 9 = .ok (.goto 7, 3) := by decide +kernel
theorem dX4_byTurn_12 : decode cX4_byTurn 12 = .ok (.aload_n 0, 1) := by decide +kernel
theorem dX4_byTurn_13 : decode cX4_byTurn 13 = .ok (.getfield 86, 3) := by decide +kernel
theorem dX4_byTurn_16 : decode cX4_byTurn 16 = .ok (.istore_n 3, 1) := by decide +kernel
theorem dX4_byTurn_17 : decode cX4_byTurn 17 = .ok (.iload_n 2, 1) := by decide +kernel
theorem dX4_byTurn_18 : decode cX4_byTurn 18 = .ok (.iload_n 3, 1) := by decide +kernel
theorem dX4_byTurn_19 : decode cX4_byTurn 19 = .ok (.if_icmp .ge 11, 3) := by decide +kernel
theorem dX4_byTurn_22 : decode cX4_byTurn 22 = .ok (.iload_n 3, 1) := by decide +kernel
theorem dX4_byTurn_23 : decode cX4_byTurn 23 = .ok (.iconst 1, 1) := by decide +kernel
theorem dX4_byTurn_24 : decode cX4_byTurn 24 = .ok (.isub, 1) := by decide +kernel
theorem dX4_byTurn_25 : decode cX4_byTurn 25 = .ok (.iload_n 2, 1) := by decide +kernel
theorem dX4_byTurn_26 : decode cX4_byTurn 26 = .ok (.isub, 1) := by decide +kernel
theorem dX4_byTurn_27 : decode cX4_byTurn 27 = .ok (.goto 4, 3) := by decide +kernel
theorem dX4_byTurn_30 : decode cX4_byTurn 30 = .ok (.iload_n 2, 1) := by decide +kernel
theorem dX4_byTurn_31 : decode cX4_byTurn 31 = .ok (.ireturn, 1) := by decide +kernel
theorem dX4_goesBy_0 : decode cX4_goesBy 0 = .ok (.iload_n 1, 1) := by decide +kernel
theorem dX4_goesBy_1 : decode cX4_goesBy 1 = .ok (.tableswitch 74 1 4 #[31, 50, 67, 50], 31) := by decide +kernel
theorem dX4_goesBy_32 : decode cX4_goesBy 32 = .ok (.iload_n 3, 1) := by decide +kernel
theorem dX4_goesBy_33 : decode cX4_goesBy 33 = .ok (.aload_n 0, 1) := by decide +kernel
theorem dX4_goesBy_34 : decode cX4_goesBy 34 = .ok (.getfield 86, 3) := by decide +kernel
theorem dX4_goesBy_37 : decode cX4_goesBy 37 = .ok (.iadd, 1) := by decide +kernel
theorem dX4_goesBy_38 : decode cX4_goesBy 38 = .ok (.iload_n 2, 1) := by decide +kernel
theorem dX4_goesBy_39 : decode cX4_goesBy 39 = .ok (.aload_n 0, 1) := by decide +kernel
theorem dX4_goesBy_40 : decode cX4_goesBy 40 = .ok (.getfield 86, 3) := by decide +kernel
theorem dX4_goesBy_43 : decode cX4_goesBy 43 = .ok (.irem, 1) := by decide +kernel
theorem dX4_goesBy_44 : decode cX4_goesBy 44 = .ok (.isub, 1) := by decide +kernel
theorem dX4_goesBy_45 : decode cX4_goesBy 45 = .ok (.aload_n 0, 1) := by decide +kernel
theorem dX4_goesBy_46 : decode cX4_goesBy 46 = .ok (.getfield 86, 3) := by decide +kernel
theorem dX4_goesBy_49 : decode cX4_goesBy 49 = .ok (.irem, 1) := by decide +kernel
theorem dX4_goesBy_50 : decode cX4_goesBy 50 = .ok (.ireturn, 1) := by decide +kernel
theorem dX4_goesBy_51 : decode cX4_goesBy 51 = .ok (.aload_n 0, 1) := by decide +kernel
theorem dX4_goesBy_52 : decode cX4_goesBy 52 = .ok (.iload_n 2, 1) := by decide +kernel
theorem dX4_goesBy_53 : decode cX4_goesBy 53 = .ok (.iload_n 3, 1) := by decide +kernel
theorem dX4_goesBy_54 : decode cX4_goesBy 54 = .ok (.iload_n 1, 1) := by decide +kernel
theorem dX4_goesBy_55 : decode cX4_goesBy 55 = .ok (.iconst 4, 1) := by decide +kernel
theorem dX4_goesBy_56 : decode cX4_goesBy 56 = .ok (.if_icmp .ne 7, 3) := by decide +kernel
theorem dX4_goesBy_59 : decode cX4_goesBy 59 = .ok (.iconst 1, 1) := by decide +kernel
theorem dX4_goesBy_60 : decode cX4_goesBy 60 = .ok (.goto 4, 3) := by decide +kernel
theorem dX4_goesBy_63 : decode cX4_goesBy 63 = .ok (.iconst 0, 1) := by decide +kernel
theorem dX4_goesBy_64 : decode cX4_goesBy 64 = .ok (.invokevirtual 108, 3) := by decide +kernel
theorem dX4_goesBy_67 : decode cX4_goesBy 67 = .ok (.ireturn, 1) := by decide +kernel
theorem dX4_goesBy_68 : decode cX4_goesBy 68 = .ok (.aload_n 0, 1) := by decide +kernel
theorem dX4_goesBy_69 : decode cX4_goesBy 69 = .ok (.iload_n 2, 1) := by decide +kernel
theorem dX4_goesBy_70 : decode cX4_goesBy 70 = .ok (.iload_n 3, 1) := by decide +kernel
theorem dX4_goesBy_71 : decode cX4_goesBy 71 = .ok (.invokevirtual 112, 3) := by decide +kernel
theorem dX4_goesBy_74 : decode cX4_goesBy 74 = .ok (.ireturn, 1) := by decide +kernel
theorem dX4_goesBy_75 : decode cX4_goesBy 75 = .ok (.aload_n 0, 1) := by decide +kernel
theorem dX4_goesBy_76 : decode cX4_goesBy 76 = .ok (.iload_n 2, 1) := by decide +kernel
theorem dX4_goesBy_77 : decode cX4_goesBy 77 = .ok (.iload_n 3, 1) := by decide +kernel
theorem dX4_goesBy_78 : decode cX4_goesBy 78 = .ok (.invokevirtual 115, 3) := by decide +kernel
theorem dX4_goesBy_81 : decode cX4_goesBy 81 = .ok (.ireturn, 1) := by decide +kernel
theorem dX4_goesOf_0 : decode cX4_goesOf 0 = .ok (.aload_n 0, 1) := by decide +kernel
theorem dX4_goesOf_1 : decode cX4_goesOf 1 = .ok (.aload_n 0, 1) := by decide +kernel
theorem dX4_goesOf_2 : decode cX4_goesOf 2 = .ok (.getfield 13, 3) := by decide +kernel
theorem dX4_goesOf_5 : decode cX4_goesOf 5 = .ok (.iload_n 1, 1) := by decide +kernel
theorem dX4_goesOf_6 : decode cX4_goesOf 6 = .ok (.iaload, 1) := by decide +kernel
theorem dX4_goesOf_7 : decode cX4_goesOf 7 = .ok (.aload_n 0, 1) := by decide +kernel
theorem dX4_goesOf_8 : decode cX4_goesOf 8 = .ok (.getfield 16, 3) := by decide +kernel
theorem dX4_goesOf_11 : decode cX4_goesOf 11 = .ok (.iload_n 1, 1) := by decide +kernel
theorem dX4_goesOf_12 : decode cX4_goesOf 12 = .ok (.iaload, 1) := by decide +kernel
theorem dX4_goesOf_13 : decode cX4_goesOf 13 = .ok (.iload_n 2, 1) := by decide +kernel
theorem dX4_goesOf_14 : decode cX4_goesOf 14 = .ok (.invokevirtual 118, 3) := by decide +kernel
theorem dX4_goesOf_17 : decode cX4_goesOf 17 = .ok (.ireturn, 1) := by decide +kernel
theorem dX4_goes_0 : decode cX4_goes 0 = .ok (.aload_n 0, 1) := by decide +kernel
theorem dX4_goes_1 : decode cX4_goes 1 = .ok (.iload_n 1, 1) := by decide +kernel
theorem dX4_goes_2 : decode cX4_goes 2 = .ok (.invokevirtual 122, 3) := by decide +kernel
theorem dX4_goes_5 : decode cX4_goes 5 = .ok (.ifCond .eq 20, 3) := by decide +kernel
theorem dX4_goes_8 : decode cX4_goes 8 = .ok (.aload_n 0, 1) := by decide +kernel
theorem dX4_goes_9 : decode cX4_goes 9 = .ok (.iload_n 2, 1) := by decide +kernel
theorem dX4_goes_10 : decode cX4_goes 10 = .ok (.invokevirtual 125, 3) := by decide +kernel
theorem dX4_goes_13 : decode cX4_goes 13 = .ok (.ifCond .eq 12, 3) := by decide +kernel
theorem dX4_goes_16 : decode cX4_goes 16 = .ok (.aload_n 0, 1) := by decide +kernel
theorem dX4_goes_17 : decode cX4_goes 17 = .ok (.iload_n 1, 1) := by decide +kernel
theorem dX4_goes_18 : decode cX4_goes 18 = .ok (.iload_n 2, 1) := by decide +kernel
theorem dX4_goes_19 : decode cX4_goes 19 = .ok (.invokevirtual 128, 3) := by decide +kernel
theorem dX4_goes_22 : decode cX4_goes 22 = .ok (.goto 5, 3) := by decide +kernel
theorem dX4_goes_25 : decode cX4_goes 25 = .ok (.bipush (-101), 2) := by decide +kernel
theorem dX4_goes_27 : decode cX4_goes 27 = .ok (.ireturn, 1) := by decide +kernel
theorem dX4_roundOf_0 : decode cX4_roundOf 0 = .ok (.iload_n 1, 1) := by decide +kernel
theorem dX4_roundOf_1 : decode cX4_roundOf 1 = .ok (.istore_n 2, 1) := by decide +kernel
theorem dX4_roundOf_2 : decode cX4_roundOf 2 = .ok (.iconst 0, 1) := by decide +kernel
theorem dX4_roundOf_3 : decode cX4_roundOf 3 = .ok (.istore_n 3, 1) := by decide +kernel
theorem dX4_roundOf_4 : decode cX4_roundOf 4 = .ok (.iload_n 3, 1) := by decide +kernel
theorem dX4_roundOf_5 : decode cX4_roundOf 5 = .ok (.aload_n 0, 1) := by decide +kernel
theorem dX4_roundOf_6 : decode cX4_roundOf 6 = .ok (.getfield 89, 3) := by decide +kernel
theorem dX4_roundOf_9 : decode cX4_roundOf 9 = .ok (.if_icmp .ge 16, 3) := by decide +kernel
theorem dX4_roundOf_12 : decode cX4_roundOf 12 = .ok (.aload_n 0, 1) := by decide +kernel
theorem dX4_roundOf_13 : decode cX4_roundOf 13 = .ok (.iload_n 3, 1) := by decide +kernel
theorem dX4_roundOf_14 : decode cX4_roundOf 14 = .ok (.iload_n 2, 1) := by decide +kernel
theorem dX4_roundOf_15 : decode cX4_roundOf 15 = .ok (.invokevirtual 128, 3) := by decide +kernel
theorem dX4_roundOf_18 : decode cX4_roundOf 18 = .ok (.istore_n 2, 1) := by decide +kernel
theorem dX4_roundOf_19 : decode cX4_roundOf 19 = .ok (.iinc 3 1, 3) := by decide +kernel
theorem dX4_roundOf_22 : decode cX4_roundOf 22 = .ok (.goto (-18), 3) := by decide +kernel
theorem dX4_roundOf_25 : decode cX4_roundOf 25 = .ok (.iload_n 2, 1) := by decide +kernel
theorem dX4_roundOf_26 : decode cX4_roundOf 26 = .ok (.ireturn, 1) := by decide +kernel
theorem dX4_round_0 : decode cX4_round 0 = .ok (.aload_n 0, 1) := by decide +kernel
theorem dX4_round_1 : decode cX4_round 1 = .ok (.iload_n 1, 1) := by decide +kernel
theorem dX4_round_2 : decode cX4_round 2 = .ok (.invokevirtual 125, 3) := by decide +kernel
theorem dX4_round_5 : decode cX4_round 5 = .ok (.ifCond .eq 11, 3) := by decide +kernel
theorem dX4_round_8 : decode cX4_round 8 = .ok (.aload_n 0, 1) := by decide +kernel
theorem dX4_round_9 : decode cX4_round 9 = .ok (.iload_n 1, 1) := by decide +kernel
theorem dX4_round_10 : decode cX4_round 10 = .ok (.invokevirtual 131, 3) := by decide +kernel
theorem dX4_round_13 : decode cX4_round 13 = .ok (.goto 5, 3) := by decide +kernel
theorem dX4_round_16 : decode cX4_round 16 = .ok (.bipush (-101), 2) := by decide +kernel
theorem dX4_round_18 : decode cX4_round 18 = .ok (.ireturn, 1) := by decide +kernel
theorem dX4_ringOf_0 : decode cX4_ringOf 0 = .ok (.iconst 1, 1) := by decide +kernel
theorem dX4_ringOf_1 : decode cX4_ringOf 1 = .ok (.istore_n 2, 1) := by decide +kernel
theorem dX4_ringOf_2 : decode cX4_ringOf 2 = .ok (.aload_n 0, 1) := by decide +kernel
theorem dX4_ringOf_3 : decode cX4_ringOf 3 = .ok (.getfield 22, 3) := by decide +kernel
theorem dX4_ringOf_6 : decode cX4_ringOf 6 = .ok (.iload_n 1, 1) := by decide +kernel
theorem dX4_ringOf_7 : decode cX4_ringOf 7 = .ok (.iaload, 1) := by decide +kernel
theorem dX4_ringOf_8 : decode cX4_ringOf 8 = .ok (.istore_n 3, 1) := by decide +kernel
theorem dX4_ringOf_9 : decode cX4_ringOf 9 = .ok (.iload_n 3, 1) := by decide +kernel
theorem dX4_ringOf_10 : decode cX4_ringOf 10 = .ok (.iload_n 1, 1) := by decide +kernel
theorem dX4_ringOf_11 : decode cX4_ringOf 11 = .ok (.if_icmp .eq 16, 3) := by decide +kernel
theorem dX4_ringOf_14 : decode cX4_ringOf 14 = .ok (.iinc 2 1, 3) := by decide +kernel
theorem dX4_ringOf_17 : decode cX4_ringOf 17 = .ok (.aload_n 0, 1) := by decide +kernel
theorem dX4_ringOf_18 : decode cX4_ringOf 18 = .ok (.getfield 22, 3) := by decide +kernel
theorem dX4_ringOf_21 : decode cX4_ringOf 21 = .ok (.iload_n 3, 1) := by decide +kernel
theorem dX4_ringOf_22 : decode cX4_ringOf 22 = .ok (.iaload, 1) := by decide +kernel
theorem dX4_ringOf_23 : decode cX4_ringOf 23 = .ok (.istore_n 3, 1) := by decide +kernel
theorem dX4_ringOf_24 : decode cX4_ringOf 24 = .ok (.goto (-15), 3) := by decide +kernel
theorem dX4_ringOf_27 : decode cX4_ringOf 27 = .ok (.iload_n 2, 1) := by decide +kernel
theorem dX4_ringOf_28 : decode cX4_ringOf 28 = .ok (.ireturn, 1) := by decide +kernel
theorem dX4_layRings_0 : decode cX4_layRings 0 = .ok (.aload_n 0, 1) := by decide +kernel
theorem dX4_layRings_1 : decode cX4_layRings 1 = .ok (.iconst 0, 1) := by decide +kernel
theorem dX4_layRings_2 : decode cX4_layRings 2 = .ok (.putfield 134, 3) := by decide +kernel
theorem dX4_layRings_5 : decode cX4_layRings 5 = .ok (.aload_n 0, 1) := by decide +kernel
theorem dX4_layRings_6 : decode cX4_layRings 6 = .ok (.iconst 0, 1) := by decide +kernel
theorem dX4_layRings_7 : decode cX4_layRings 7 = .ok (.putfield 137, 3) := by decide +kernel
theorem dX4_layRings_10 : decode cX4_layRings 10 = .ok (.aload_n 0, 1) := by decide +kernel
theorem dX4_layRings_11 : decode cX4_layRings 11 = .ok (.iconst 1, 1) := by decide +kernel
theorem dX4_layRings_12 : decode cX4_layRings 12 = .ok (.putfield 140, 3) := by decide +kernel
theorem dX4_layRings_15 : decode cX4_layRings 15 = .ok (.iconst 0, 1) := by decide +kernel
theorem dX4_layRings_16 : decode cX4_layRings 16 = .ok (.istore_n 1, 1) := by decide +kernel
theorem dX4_layRings_17 : decode cX4_layRings 17 = .ok (.iconst 0, 1) := by decide +kernel
theorem dX4_layRings_18 : decode cX4_layRings 18 = .ok (.istore_n 2, 1) := by decide +kernel
theorem dX4_layRings_19 : decode cX4_layRings 19 = .ok (.iload_n 2, 1) := by decide +kernel
theorem dX4_layRings_20 : decode cX4_layRings 20 = .ok (.aload_n 0, 1) := by decide +kernel
theorem dX4_layRings_21 : decode cX4_layRings 21 = .ok (.getfield 86, 3) := by decide +kernel
theorem dX4_layRings_24 : decode cX4_layRings 24 = .ok (.if_icmp .ge 81, 3) := by decide +kernel
theorem dX4_layRings_27 : decode cX4_layRings 27 = .ok (.aload_n 0, 1) := by decide +kernel
theorem dX4_layRings_28 : decode cX4_layRings 28 = .ok (.iload_n 2, 1) := by decide +kernel
theorem dX4_layRings_29 : decode cX4_layRings 29 = .ok (.invokevirtual 143, 3) := by decide +kernel
theorem dX4_layRings_32 : decode cX4_layRings 32 = .ok (.istore_n 3, 1) := by decide +kernel
theorem dX4_layRings_33 : decode cX4_layRings 33 = .ok (.aload_n 0, 1) := by decide +kernel
theorem dX4_layRings_34 : decode cX4_layRings 34 = .ok (.iload_n 3, 1) := by decide +kernel
theorem dX4_layRings_35 : decode cX4_layRings 35 = .ok (.aload_n 0, 1) := by decide +kernel
theorem dX4_layRings_36 : decode cX4_layRings 36 = .ok (.getfield 134, 3) := by decide +kernel
theorem dX4_layRings_39 : decode cX4_layRings 39 = .ok (.if_icmp .le 7, 3) := by decide +kernel
theorem dX4_layRings_42 : decode cX4_layRings 42 = .ok (.iload_n 3, 1) := by decide +kernel
theorem dX4_layRings_43 : decode cX4_layRings 43 = .ok (.goto 7, 3) := by decide +kernel
theorem dX4_layRings_46 : decode cX4_layRings 46 = .ok (.aload_n 0, 1) := by decide +kernel
theorem dX4_layRings_47 : decode cX4_layRings 47 = .ok (.getfield 134, 3) := by decide +kernel
theorem dX4_layRings_50 : decode cX4_layRings 50 = .ok (.putfield 134, 3) := by decide +kernel
theorem dX4_layRings_53 : decode cX4_layRings 53 = .ok (.aload_n 0, 1) := by decide +kernel
theorem dX4_layRings_54 : decode cX4_layRings 54 = .ok (.dup, 1) := by decide +kernel
theorem dX4_layRings_55 : decode cX4_layRings 55 = .ok (.getfield 137, 3) := by decide +kernel
theorem dX4_layRings_58 : decode cX4_layRings 58 = .ok (.iload_n 3, 1) := by decide +kernel
theorem dX4_layRings_59 : decode cX4_layRings 59 = .ok (.iconst 1, 1) := by decide +kernel
theorem dX4_layRings_60 : decode cX4_layRings 60 = .ok (.if_icmp .ne 7, 3) := by decide +kernel
theorem dX4_layRings_63 : decode cX4_layRings 63 = .ok (.iconst 1, 1) := by decide +kernel
theorem dX4_layRings_64 : decode cX4_layRings 64 = .ok (.goto 4, 3) := by decide +kernel
theorem dX4_layRings_67 : decode cX4_layRings 67 = .ok (.iconst 0, 1) := by decide +kernel
theorem dX4_layRings_68 : decode cX4_layRings 68 = .ok (.iadd, 1) := by decide +kernel
theorem dX4_layRings_69 : decode cX4_layRings 69 = .ok (.putfield 137, 3) := by decide +kernel
theorem dX4_layRings_72 : decode cX4_layRings 72 = .ok (.aload_n 0, 1) := by decide +kernel
theorem dX4_layRings_73 : decode cX4_layRings 73 = .ok (.aload_n 0, 1) := by decide +kernel
theorem dX4_layRings_74 : decode cX4_layRings 74 = .ok (.getfield 140, 3) := by decide +kernel
theorem dX4_layRings_77 : decode cX4_layRings 77 = .ok (.aload_n 0, 1) := by decide +kernel
theorem dX4_layRings_78 : decode cX4_layRings 78 = .ok (.getfield 140, 3) := by decide +kernel
theorem dX4_layRings_81 : decode cX4_layRings 81 = .ok (.iload_n 3, 1) := by decide +kernel
theorem dX4_layRings_82 : decode cX4_layRings 82 = .ok (.invokestatic 146, 3) := by decide +kernel
theorem dX4_layRings_85 : decode cX4_layRings 85 = .ok (.idiv, 1) := by decide +kernel
theorem dX4_layRings_86 : decode cX4_layRings 86 = .ok (.iload_n 3, 1) := by decide +kernel
theorem dX4_layRings_87 : decode cX4_layRings 87 = .ok (.imul, 1) := by decide +kernel
theorem dX4_layRings_88 : decode cX4_layRings 88 = .ok (.putfield 140, 3) := by decide +kernel
theorem dX4_layRings_91 : decode cX4_layRings 91 = .ok (.iload_n 1, 1) := by decide +kernel
theorem dX4_layRings_92 : decode cX4_layRings 92 = .ok (.sipush 27720, 3) := by decide +kernel
theorem dX4_layRings_95 : decode cX4_layRings 95 = .ok (.iload_n 3, 1) := by decide +kernel
theorem dX4_layRings_96 : decode cX4_layRings 96 = .ok (.idiv, 1) := by decide +kernel
theorem dX4_layRings_97 : decode cX4_layRings 97 = .ok (.iadd, 1) := by decide +kernel
theorem dX4_layRings_98 : decode cX4_layRings 98 = .ok (.istore_n 1, 1) := by decide +kernel
theorem dX4_layRings_99 : decode cX4_layRings 99 = .ok (.iinc 2 1, 3) := by decide +kernel
theorem dX4_layRings_102 : decode cX4_layRings 102 = .ok (.goto (-83), 3) := by decide +kernel
theorem dX4_layRings_105 : decode cX4_layRings 105 = .ok (.aload_n 0, 1) := by decide +kernel
theorem dX4_layRings_106 : decode cX4_layRings 106 = .ok (.iload_n 1, 1) := by decide +kernel
theorem dX4_layRings_107 : decode cX4_layRings 107 = .ok (.sipush 27720, 3) := by decide +kernel
theorem dX4_layRings_110 : decode cX4_layRings 110 = .ok (.idiv, 1) := by decide +kernel
theorem dX4_layRings_111 : decode cX4_layRings 111 = .ok (.putfield 149, 3) := by decide +kernel
theorem dX4_layRings_114 : decode cX4_layRings 114 = .ok (.return_, 1) := by decide +kernel
theorem dX4_layRound_0 : decode cX4_layRound 0 = .ok (.iconst 0, 1) := by decide +kernel
theorem dX4_layRound_1 : decode cX4_layRound 1 = .ok (.istore_n 1, 1) := by decide +kernel
theorem dX4_layRound_2 : decode cX4_layRound 2 = .ok (.iload_n 1, 1) := by decide +kernel
theorem dX4_layRound_3 : decode cX4_layRound 3 = .ok (.aload_n 0, 1) := by decide +kernel
theorem dX4_layRound_4 : decode cX4_layRound 4 = .ok (.getfield 86, 3) := by decide +kernel
theorem dX4_layRound_7 : decode cX4_layRound 7 = .ok (.if_icmp .ge 20, 3) := by decide +kernel
theorem dX4_layRound_10 : decode cX4_layRound 10 = .ok (.aload_n 0, 1) := by decide +kernel
theorem dX4_layRound_11 : decode cX4_layRound 11 = .ok (.getfield 22, 3) := by decide +kernel
theorem dX4_layRound_14 : decode cX4_layRound 14 = .ok (.iload_n 1, 1) := by decide +kernel
theorem dX4_layRound_15 : decode cX4_layRound 15 = .ok (.aload_n 0, 1) := by decide +kernel
theorem dX4_layRound_16 : decode cX4_layRound 16 = .ok (.iload_n 1, 1) := by decide +kernel
theorem dX4_layRound_17 : decode cX4_layRound 17 = .ok (.invokevirtual 131, 3) := by decide +kernel
theorem dX4_layRound_20 : decode cX4_layRound 20 = .ok (.iastore, 1) := by decide +kernel
theorem dX4_layRound_21 : decode cX4_layRound 21 = .ok (.iinc 1 1, 3) := by decide +kernel
theorem dX4_layRound_24 : decode cX4_layRound 24 = .ok (.goto (-22), 3) := by decide +kernel
theorem dX4_layRound_27 : decode cX4_layRound 27 = .ok (.aload_n 0, 1) := by decide +kernel
theorem dX4_layRound_28 : decode cX4_layRound 28 = .ok (.invokevirtual 152, 3) := by decide +kernel
theorem dX4_layRound_31 : decode cX4_layRound 31 = .ok (.return_, 1) := by decide +kernel
theorem dX4_ringsOf_0 : decode cX4_ringsOf 0 = .ok (.aload_n 0, 1) := by decide +kernel
theorem dX4_ringsOf_1 : decode cX4_ringsOf 1 = .ok (.invokevirtual 155, 3) := by decide +kernel
theorem dX4_ringsOf_4 : decode cX4_ringsOf 4 = .ok (.iload_n 1, 1) := by decide +kernel
theorem dX4_ringsOf_5 : decode cX4_ringsOf 5 = .ok (.ifCond .ne 10, 3) := by decide +kernel
theorem dX4_ringsOf_8 : decode cX4_ringsOf 8 = .ok (.aload_n 0, 1) := by decide +kernel
theorem dX4_ringsOf_9 : decode cX4_ringsOf 9 = .ok (.getfield 140, 3) := by decide +kernel
theorem dX4_ringsOf_12 : decode cX4_ringsOf 12 = .ok (.goto 31, 3) := by decide +kernel
theorem dX4_ringsOf_15 : decode cX4_ringsOf 15 = .ok (.iload_n 1, 1) := by decide +kernel
theorem dX4_ringsOf_16 : decode cX4_ringsOf 16 = .ok (.iconst 1, 1) := by decide +kernel
theorem dX4_ringsOf_17 : decode cX4_ringsOf 17 = .ok (.if_icmp .ne 10, 3) := by decide +kernel
theorem dX4_ringsOf_20 : decode cX4_ringsOf 20 = .ok (.aload_n 0, 1) := by decide +kernel
theorem dX4_ringsOf_21 : decode cX4_ringsOf 21 = .ok (.getfield 149, 3) := by decide +kernel
theorem dX4_ringsOf_24 : decode cX4_ringsOf 24 = .ok (.goto 19, 3) := by decide +kernel
theorem dX4_ringsOf_27 : decode cX4_ringsOf 27 = .ok (.iload_n 1, 1) := by decide +kernel
theorem dX4_ringsOf_28 : decode cX4_ringsOf 28 = .ok (.iconst 2, 1) := by decide +kernel
theorem dX4_ringsOf_29 : decode cX4_ringsOf 29 = .ok (.if_icmp .ne 10, 3) := by decide +kernel
theorem dX4_ringsOf_32 : decode cX4_ringsOf 32 = .ok (.aload_n 0, 1) := by decide +kernel
theorem dX4_ringsOf_33 : decode cX4_ringsOf 33 = .ok (.getfield 134, 3) := by decide +kernel
theorem dX4_ringsOf_36 : decode cX4_ringsOf 36 = .ok (.goto 7, 3) := by decide +kernel
theorem dX4_ringsOf_39 : decode cX4_ringsOf 39 = .ok (.aload_n 0, 1) := by decide +kernel
theorem dX4_ringsOf_40 : decode cX4_ringsOf 40 = .ok (.getfield 137, 3) := by decide +kernel
theorem dX4_ringsOf_43 : decode cX4_ringsOf 43 = .ok (.ireturn, 1) := by decide +kernel
theorem dX4_rings_0 : decode cX4_rings 0 = .ok (.iload_n 1, 1) := by decide +kernel
theorem dX4_rings_1 : decode cX4_rings 1 = .ok (.i2l, 1) := by decide +kernel
theorem dX4_rings_2 : decode cX4_rings 2 = .ok (.lconst 0, 1) := by decide +kernel
theorem dX4_rings_3 : decode cX4_rings 3 = .ok (.ldc2_w 158, 3) := by decide +kernel
theorem dX4_rings_6 : decode cX4_rings 6 = .ok (.invokestatic 61, 3) := by decide +kernel
theorem dX4_rings_9 : decode cX4_rings 9 = .ok (.ifCond .ne 6, 3) := by decide +kernel
theorem dX4_rings_12 : decode cX4_rings 12 = .ok (.bipush (-102), 2) := by decide +kernel
theorem dX4_rings_14 : decode cX4_rings 14 = .ok (.ireturn, 1) := by decide +kernel
theorem dX4_rings_15 : decode cX4_rings 15 = .ok (.aload_n 0, 1) := by decide +kernel
theorem dX4_rings_16 : decode cX4_rings 16 = .ok (.invokevirtual 160, 3) := by decide +kernel
theorem dX4_rings_19 : decode cX4_rings 19 = .ok (.ifCond .eq 8, 3) := by decide +kernel
theorem dX4_rings_22 : decode cX4_rings 22 = .ok (.bipush (-103), 2) := by decide +kernel
theorem dX4_rings_24 : decode cX4_rings 24 = .ok (.goto 8, 3) := by decide +kernel
theorem dX4_rings_27 : decode cX4_rings 27 = .ok (.aload_n 0, 1) := by decide +kernel
theorem dX4_rings_28 : decode cX4_rings 28 = .ok (.iload_n 1, 1) := by decide +kernel
theorem dX4_rings_29 : decode cX4_rings 29 = .ok (.invokevirtual 164, 3) := by decide +kernel
theorem dX4_rings_32 : decode cX4_rings 32 = .ok (.ireturn, 1) := by decide +kernel
theorem dX4_afterOf_0 : decode cX4_afterOf 0 = .ok (.aload_n 0, 1) := by decide +kernel
theorem dX4_afterOf_1 : decode cX4_afterOf 1 = .ok (.invokevirtual 155, 3) := by decide +kernel
theorem dX4_afterOf_4 : decode cX4_afterOf 4 = .ok (.iload_n 2, 1) := by decide +kernel
theorem dX4_afterOf_5 : decode cX4_afterOf 5 = .ok (.aload_n 0, 1) := by decide +kernel
theorem dX4_afterOf_6 : decode cX4_afterOf 6 = .ok (.iload_n 1, 1) := by decide +kernel
theorem dX4_afterOf_7 : decode cX4_afterOf 7 = .ok (.invokevirtual 143, 3) := by decide +kernel
theorem dX4_afterOf_10 : decode cX4_afterOf 10 = .ok (.irem, 1) := by decide +kernel
theorem dX4_afterOf_11 : decode cX4_afterOf 11 = .ok (.istore_n 3, 1) := by decide +kernel
theorem dX4_afterOf_12 : decode cX4_afterOf 12 = .ok (.iload_n 1, 1) := by decide +kernel
theorem dX4_afterOf_13 : decode cX4_afterOf 13 = .ok (.istore 4, 2) := by decide +kernel
theorem dX4_afterOf_15 : decode cX4_afterOf 15 = .ok (.iconst 0, 1) := by decide +kernel
theorem dX4_afterOf_16 : decode cX4_afterOf 16 = .ok (.istore 5, 2) := by decide +kernel
theorem dX4_afterOf_18 : decode cX4_afterOf 18 = .ok (.iload 5, 2) := by decide +kernel
theorem dX4_afterOf_20 : decode cX4_afterOf 20 = .ok (.iload_n 3, 1) := by decide +kernel
theorem dX4_afterOf_21 : decode cX4_afterOf 21 = .ok (.if_icmp .ge 18, 3) := by decide +kernel
theorem dX4_afterOf_24 : decode cX4_afterOf 24 = .ok (.aload_n 0, 1) := by decide +kernel
theorem dX4_afterOf_25 : decode cX4_afterOf 25 = .ok (.getfield 22, 3) := by decide +kernel
theorem dX4_afterOf_28 : decode cX4_afterOf 28 = .ok (.iload 4, 2) := by decide +kernel
theorem dX4_afterOf_30 : decode cX4_afterOf 30 = .ok (.iaload, 1) := by decide +kernel
theorem dX4_afterOf_31 : decode cX4_afterOf 31 = .ok (.istore 4, 2) := by decide +kernel
theorem dX4_afterOf_33 : decode cX4_afterOf 33 = .ok (.iinc 5 1, 3) := by decide +kernel
theorem dX4_afterOf_36 : decode cX4_afterOf 36 = .ok (.goto (-18), 3) := by decide +kernel
theorem dX4_afterOf_39 : decode cX4_afterOf 39 = .ok (.iload 4, 2) := by decide +kernel
theorem dX4_afterOf_41 : decode cX4_afterOf 41 = .ok (.ireturn, 1) := by decide +kernel
theorem dX4_after_0 : decode cX4_after 0 = .ok (.aload_n 0, 1) := by decide +kernel
theorem dX4_after_1 : decode cX4_after 1 = .ok (.iload_n 1, 1) := by decide +kernel
theorem dX4_after_2 : decode cX4_after 2 = .ok (.invokevirtual 125, 3) := by decide +kernel
theorem dX4_after_5 : decode cX4_after 5 = .ok (.ifCond .ne 6, 3) := by decide +kernel
theorem dX4_after_8 : decode cX4_after 8 = .ok (.bipush (-101), 2) := by decide +kernel
theorem dX4_after_10 : decode cX4_after 10 = .ok (.ireturn, 1) := by decide +kernel
theorem dX4_after_11 : decode cX4_after 11 = .ok (.iload_n 2, 1) := by decide +kernel
theorem dX4_after_12 : decode cX4_after 12 = .ok (.i2l, 1) := by decide +kernel
theorem dX4_after_13 : decode cX4_after 13 = .ok (.lconst 0, 1) := by decide +kernel
theorem dX4_after_14 : decode cX4_after 14 = .ok (.ldc2_w 167, 3) := by decide +kernel
theorem dX4_after_17 : decode cX4_after 17 = .ok (.invokestatic 61, 3) := by decide +kernel
theorem dX4_after_20 : decode cX4_after 20 = .ok (.ifCond .eq 12, 3) := by decide +kernel
theorem dX4_after_23 : decode cX4_after 23 = .ok (.aload_n 0, 1) := by decide +kernel
theorem dX4_after_24 : decode cX4_after 24 = .ok (.iload_n 1, 1) := by decide +kernel
theorem dX4_after_25 : decode cX4_after 25 = .ok (.iload_n 2, 1) := by decide +kernel
theorem dX4_after_26 : decode cX4_after 26 = .ok (.invokevirtual 169, 3) := by decide +kernel
theorem dX4_after_29 : decode cX4_after 29 = .ok (.goto 5, 3) := by decide +kernel
theorem dX4_after_32 : decode cX4_after 32 = .ok (.bipush (-102), 2) := by decide +kernel
theorem dX4_after_34 : decode cX4_after 34 = .ok (.ireturn, 1) := by decide +kernel
theorem dX4_ofStep_0 : decode cX4_ofStep 0 = .ok (.iconst 0, 1) := by decide +kernel
theorem dX4_ofStep_1 : decode cX4_ofStep 1 = .ok (.istore_n 3, 1) := by decide +kernel
theorem dX4_ofStep_2 : decode cX4_ofStep 2 = .ok (.iload_n 3, 1) := by decide +kernel
theorem dX4_ofStep_3 : decode cX4_ofStep 3 = .ok (.aload_n 0, 1) := by decide +kernel
theorem dX4_ofStep_4 : decode cX4_ofStep 4 = .ok (.getfield 86, 3) := by decide +kernel
theorem dX4_ofStep_7 : decode cX4_ofStep 7 = .ok (.if_icmp .ge 21, 3) := by decide +kernel
theorem dX4_ofStep_10 : decode cX4_ofStep 10 = .ok (.aload_n 0, 1) := by decide +kernel
theorem dX4_ofStep_11 : decode cX4_ofStep 11 = .ok (.getfield 22, 3) := by decide +kernel
theorem dX4_ofStep_14 : decode cX4_ofStep 14 = .ok (.iload_n 3, 1) := by decide +kernel
theorem dX4_ofStep_15 : decode cX4_ofStep 15 = .ok (.aload_n 0, 1) := by decide +kernel
theorem dX4_ofStep_16 : decode cX4_ofStep 16 = .ok (.iload_n 1, 1) := by decide +kernel
theorem dX4_ofStep_17 : decode cX4_ofStep 17 = .ok (.iload_n 3, 1) := by decide +kernel
theorem dX4_ofStep_18 : decode cX4_ofStep 18 = .ok (.invokevirtual 128, 3) := by decide +kernel
theorem dX4_ofStep_21 : decode cX4_ofStep 21 = .ok (.iastore, 1) := by decide +kernel
theorem dX4_ofStep_22 : decode cX4_ofStep 22 = .ok (.iinc 3 1, 3) := by decide +kernel
theorem dX4_ofStep_25 : decode cX4_ofStep 25 = .ok (.goto (-23), 3) := by decide +kernel
theorem dX4_ofStep_28 : decode cX4_ofStep 28 = .ok (.aload_n 0, 1) := by decide +kernel
theorem dX4_ofStep_29 : decode cX4_ofStep 29 = .ok (.invokevirtual 152, 3) := by decide +kernel
theorem dX4_ofStep_32 : decode cX4_ofStep 32 = .ok (.iload_n 2, 1) := by decide +kernel
theorem dX4_ofStep_33 : decode cX4_ofStep 33 = .ok (.iconst 2, 1) := by decide +kernel
theorem dX4_ofStep_34 : decode cX4_ofStep 34 = .ok (.if_icmp .ne 10, 3) := by decide +kernel
theorem dX4_ofStep_37 : decode cX4_ofStep 37 = .ok (.aload_n 0, 1) := by decide +kernel
theorem dX4_ofStep_38 : decode cX4_ofStep 38 = .ok (.getfield 137, 3) := by decide +kernel
theorem dX4_ofStep_41 : decode cX4_ofStep 41 = .ok (.goto 7, 3) := by decide +kernel
theorem dX4_ofStep_44 : decode cX4_ofStep 44 = .ok (.aload_n 0, 1) := by decide +kernel
theorem dX4_ofStep_45 : decode cX4_ofStep 45 = .ok (.getfield 140, 3) := by decide +kernel
theorem dX4_ofStep_48 : decode cX4_ofStep 48 = .ok (.ireturn, 1) := by decide +kernel
theorem dX4_tellStep_0 : decode cX4_tellStep 0 = .ok (.iload_n 2, 1) := by decide +kernel
theorem dX4_tellStep_1 : decode cX4_tellStep 1 = .ok (.tableswitch 72 0 5 #[39, 46, 53, 53, 60, 66], 39) := by decide +kernel
theorem dX4_tellStep_40 : decode cX4_tellStep 40 = .ok (.aload_n 0, 1) := by decide +kernel
theorem dX4_tellStep_41 : decode cX4_tellStep 41 = .ok (.getfield 13, 3) := by decide +kernel
theorem dX4_tellStep_44 : decode cX4_tellStep 44 = .ok (.iload_n 1, 1) := by decide +kernel
theorem dX4_tellStep_45 : decode cX4_tellStep 45 = .ok (.iaload, 1) := by decide +kernel
theorem dX4_tellStep_46 : decode cX4_tellStep 46 = .ok (.ireturn, 1) := by decide +kernel
theorem dX4_tellStep_47 : decode cX4_tellStep 47 = .ok (.aload_n 0, 1) := by decide +kernel
theorem dX4_tellStep_48 : decode cX4_tellStep 48 = .ok (.getfield 16, 3) := by decide +kernel
theorem dX4_tellStep_51 : decode cX4_tellStep 51 = .ok (.iload_n 1, 1) := by decide +kernel
theorem dX4_tellStep_52 : decode cX4_tellStep 52 = .ok (.iaload, 1) := by decide +kernel
theorem dX4_tellStep_53 : decode cX4_tellStep 53 = .ok (.ireturn, 1) := by decide +kernel
theorem dX4_tellStep_54 : decode cX4_tellStep 54 = .ok (.aload_n 0, 1) := by decide +kernel
theorem dX4_tellStep_55 : decode cX4_tellStep 55 = .ok (.iload_n 1, 1) := by decide +kernel
theorem dX4_tellStep_56 : decode cX4_tellStep 56 = .ok (.iload_n 2, 1) := by decide +kernel
theorem dX4_tellStep_57 : decode cX4_tellStep 57 = .ok (.invokevirtual 172, 3) := by decide +kernel
theorem dX4_tellStep_60 : decode cX4_tellStep 60 = .ok (.ireturn, 1) := by decide +kernel
theorem dX4_tellStep_61 : decode cX4_tellStep 61 = .ok (.aload_n 0, 1) := by decide +kernel
theorem dX4_tellStep_62 : decode cX4_tellStep 62 = .ok (.iload_n 1, 1) := by decide +kernel
theorem dX4_tellStep_63 : decode cX4_tellStep 63 = .ok (.invokevirtual 175, 3) := by decide +kernel
theorem dX4_tellStep_66 : decode cX4_tellStep 66 = .ok (.ireturn, 1) := by decide +kernel
theorem dX4_tellStep_67 : decode cX4_tellStep 67 = .ok (.aload_n 0, 1) := by decide +kernel
theorem dX4_tellStep_68 : decode cX4_tellStep 68 = .ok (.iload_n 1, 1) := by decide +kernel
theorem dX4_tellStep_69 : decode cX4_tellStep 69 = .ok (.invokevirtual 178, 3) := by decide +kernel
theorem dX4_tellStep_72 : decode cX4_tellStep 72 = .ok (.ireturn, 1) := by decide +kernel
theorem dX4_tellStep_73 : decode cX4_tellStep 73 = .ok (.bipush (-102), 2) := by decide +kernel
theorem dX4_tellStep_75 : decode cX4_tellStep 75 = .ok (.ireturn, 1) := by decide +kernel
theorem dX4_step_0 : decode cX4_step 0 = .ok (.aload_n 0, 1) := by decide +kernel
theorem dX4_step_1 : decode cX4_step 1 = .ok (.iload_n 1, 1) := by decide +kernel
theorem dX4_step_2 : decode cX4_step 2 = .ok (.invokevirtual 122, 3) := by decide +kernel
theorem dX4_step_5 : decode cX4_step 5 = .ok (.ifCond .eq 12, 3) := by decide +kernel
theorem dX4_step_8 : decode cX4_step 8 = .ok (.aload_n 0, 1) := by decide +kernel
theorem dX4_step_9 : decode cX4_step 9 = .ok (.iload_n 1, 1) := by decide +kernel
theorem dX4_step_10 : decode cX4_step 10 = .ok (.iload_n 2, 1) := by decide +kernel
theorem dX4_step_11 : decode cX4_step 11 = .ok (.invokevirtual 181, 3) := by decide +kernel
theorem dX4_step_14 : decode cX4_step 14 = .ok (.goto 5, 3) := by decide +kernel
theorem dX4_step_17 : decode cX4_step 17 = .ok (.bipush (-101), 2) := by decide +kernel
theorem dX4_step_19 : decode cX4_step 19 = .ok (.ireturn, 1) := by decide +kernel
theorem dX4_as_0 : decode cX4_as 0 = .ok (.aload_n 0, 1) := by decide +kernel
theorem dX4_as_1 : decode cX4_as 1 = .ok (.iload_n 1, 1) := by decide +kernel
theorem dX4_as_2 : decode cX4_as 2 = .ok (.invokevirtual 122, 3) := by decide +kernel
theorem dX4_as_5 : decode cX4_as 5 = .ok (.ifCond .ne 6, 3) := by decide +kernel
theorem dX4_as_8 : decode cX4_as 8 = .ok (.bipush (-101), 2) := by decide +kernel
theorem dX4_as_10 : decode cX4_as 10 = .ok (.ireturn, 1) := by decide +kernel
theorem dX4_as_11 : decode cX4_as 11 = .ok (.iload_n 2, 1) := by decide +kernel
theorem dX4_as_12 : decode cX4_as 12 = .ok (.i2l, 1) := by decide +kernel
theorem dX4_as_13 : decode cX4_as 13 = .ok (.lconst 0, 1) := by decide +kernel
theorem dX4_as_14 : decode cX4_as 14 = .ok (.ldc2_w 184, 3) := by decide +kernel
theorem dX4_as_17 : decode cX4_as 17 = .ok (.invokestatic 61, 3) := by decide +kernel
theorem dX4_as_20 : decode cX4_as 20 = .ok (.ifCond .ne 6, 3) := by decide +kernel
theorem dX4_as_23 : decode cX4_as 23 = .ok (.bipush (-102), 2) := by decide +kernel
theorem dX4_as_25 : decode cX4_as 25 = .ok (.ireturn, 1) := by decide +kernel
theorem dX4_as_26 : decode cX4_as 26 = .ok (.iload_n 2, 1) := by decide +kernel
theorem dX4_as_27 : decode cX4_as 27 = .ok (.ifCond .eq 28, 3) := by decide +kernel
theorem dX4_as_30 : decode cX4_as 30 = .ok (.iload_n 2, 1) := by decide +kernel
theorem dX4_as_31 : decode cX4_as 31 = .ok (.aload_n 0, 1) := by decide +kernel
theorem dX4_as_32 : decode cX4_as 32 = .ok (.getfield 13, 3) := by decide +kernel
theorem dX4_as_35 : decode cX4_as 35 = .ok (.iload_n 1, 1) := by decide +kernel
theorem dX4_as_36 : decode cX4_as 36 = .ok (.iaload, 1) := by decide +kernel
theorem dX4_as_37 : decode cX4_as 37 = .ok (.if_icmp .eq 18, 3) := by decide +kernel
theorem dX4_as_40 : decode cX4_as 40 = .ok (.iload_n 2, 1) := by decide +kernel
theorem dX4_as_41 : decode cX4_as 41 = .ok (.iconst 2, 1) := by decide +kernel
theorem dX4_as_42 : decode cX4_as 42 = .ok (.if_icmp .ne 17, 3) := by decide +kernel
theorem dX4_as_45 : decode cX4_as 45 = .ok (.aload_n 0, 1) := by decide +kernel
theorem dX4_as_46 : decode cX4_as 46 = .ok (.getfield 13, 3) := by decide +kernel
theorem dX4_as_49 : decode cX4_as 49 = .ok (.iload_n 1, 1) := by decide +kernel
theorem dX4_as_50 : decode cX4_as 50 = .ok (.iaload, 1) := by decide +kernel
theorem dX4_as_51 : decode cX4_as 51 = .ok (.iconst 4, 1) := by decide +kernel
theorem dX4_as_52 : decode cX4_as 52 = .ok (.if_icmp .ne 7, 3) := by decide +kernel
theorem dX4_as_55 : decode cX4_as 55 = .ok (.iconst 1, 1) := by decide +kernel
theorem dX4_as_56 : decode cX4_as 56 = .ok (.goto 4, 3) := by decide +kernel
theorem dX4_as_59 : decode cX4_as 59 = .ok (.iconst 0, 1) := by decide +kernel
theorem dX4_as_60 : decode cX4_as 60 = .ok (.istore_n 3, 1) := by decide +kernel
theorem dX4_as_61 : decode cX4_as 61 = .ok (.iload_n 3, 1) := by decide +kernel
theorem dX4_as_62 : decode cX4_as 62 = .ok (.ifCond .eq 7, 3) := by decide +kernel
theorem dX4_as_65 : decode cX4_as 65 = .ok (.iload_n 1, 1) := by decide +kernel
theorem dX4_as_66 : decode cX4_as 66 = .ok (.goto 4, 3) := by decide +kernel
theorem dX4_as_69 : decode cX4_as 69 = .ok (.iconst (-1), 1) := by decide +kernel
theorem dX4_as_70 : decode cX4_as 70 = .ok (.ireturn, 1) := by decide +kernel
theorem dX4_at_0 : decode cX4_at 0 = .ok (.aload_n 0, 1) := by decide +kernel
theorem dX4_at_1 : decode cX4_at 1 = .ok (.iload_n 1, 1) := by decide +kernel
theorem dX4_at_2 : decode cX4_at 2 = .ok (.invokevirtual 125, 3) := by decide +kernel
theorem dX4_at_5 : decode cX4_at 5 = .ok (.ifCond .eq 12, 3) := by decide +kernel
theorem dX4_at_8 : decode cX4_at 8 = .ok (.aload_n 0, 1) := by decide +kernel
theorem dX4_at_9 : decode cX4_at 9 = .ok (.getfield 19, 3) := by decide +kernel
theorem dX4_at_12 : decode cX4_at 12 = .ok (.iload_n 1, 1) := by decide +kernel
theorem dX4_at_13 : decode cX4_at 13 = .ok (.iaload, 1) := by decide +kernel
theorem dX4_at_14 : decode cX4_at 14 = .ok (.goto 5, 3) := by decide +kernel
theorem dX4_at_17 : decode cX4_at 17 = .ok (.bipush (-101), 2) := by decide +kernel
theorem dX4_at_19 : decode cX4_at 19 = .ok (.ireturn, 1) := by decide +kernel
theorem dX4_doThen_0 : decode cX4_doThen 0 = .ok (.aload_n 0, 1) := by decide +kernel
theorem dX4_doThen_1 : decode cX4_doThen 1 = .ok (.getfield 25, 3) := by decide +kernel
theorem dX4_doThen_4 : decode cX4_doThen 4 = .ok (.aload_n 0, 1) := by decide +kernel
theorem dX4_doThen_5 : decode cX4_doThen 5 = .ok (.getfield 28, 3) := by decide +kernel
theorem dX4_doThen_8 : decode cX4_doThen 8 = .ok (.invokestatic 186, 3) := by decide +kernel
theorem dX4_doThen_11 : decode cX4_doThen 11 = .ok (.iconst 0, 1) := by decide +kernel
theorem dX4_doThen_12 : decode cX4_doThen 12 = .ok (.istore_n 2, 1) := by decide +kernel
theorem dX4_doThen_13 : decode cX4_doThen 13 = .ok (.iload_n 2, 1) := by decide +kernel
theorem dX4_doThen_14 : decode cX4_doThen 14 = .ok (.aload_n 0, 1) := by decide +kernel
theorem dX4_doThen_15 : decode cX4_doThen 15 = .ok (.getfield 86, 3) := by decide +kernel
theorem dX4_doThen_18 : decode cX4_doThen 18 = .ok (.if_icmp .ge 26, 3) := by decide +kernel
theorem dX4_doThen_21 : decode cX4_doThen 21 = .ok (.aload_n 0, 1) := by decide +kernel
theorem dX4_doThen_22 : decode cX4_doThen 22 = .ok (.getfield 25, 3) := by decide +kernel
theorem dX4_doThen_25 : decode cX4_doThen 25 = .ok (.aload_n 0, 1) := by decide +kernel
theorem dX4_doThen_26 : decode cX4_doThen 26 = .ok (.iload_n 1, 1) := by decide +kernel
theorem dX4_doThen_27 : decode cX4_doThen 27 = .ok (.iload_n 2, 1) := by decide +kernel
theorem dX4_doThen_28 : decode cX4_doThen 28 = .ok (.invokevirtual 128, 3) := by decide +kernel
theorem dX4_doThen_31 : decode cX4_doThen 31 = .ok (.aload_n 0, 1) := by decide +kernel
theorem dX4_doThen_32 : decode cX4_doThen 32 = .ok (.getfield 28, 3) := by decide +kernel
theorem dX4_doThen_35 : decode cX4_doThen 35 = .ok (.iload_n 2, 1) := by decide +kernel
theorem dX4_doThen_36 : decode cX4_doThen 36 = .ok (.iaload, 1) := by decide +kernel
theorem dX4_doThen_37 : decode cX4_doThen 37 = .ok (.iastore, 1) := by decide +kernel
theorem dX4_doThen_38 : decode cX4_doThen 38 = .ok (.iinc 2 1, 3) := by decide +kernel
theorem dX4_doThen_41 : decode cX4_doThen 41 = .ok (.goto (-28), 3) := by decide +kernel
theorem dX4_doThen_44 : decode cX4_doThen 44 = .ok (.return_, 1) := by decide +kernel
theorem dX4_act_0 : decode cX4_act 0 = .ok (.aload_n 0, 1) := by decide +kernel
theorem dX4_act_1 : decode cX4_act 1 = .ok (.iload_n 1, 1) := by decide +kernel
theorem dX4_act_2 : decode cX4_act 2 = .ok (.invokevirtual 122, 3) := by decide +kernel
theorem dX4_act_5 : decode cX4_act 5 = .ok (.ifCond .ne 6, 3) := by decide +kernel
theorem dX4_act_8 : decode cX4_act 8 = .ok (.bipush (-101), 2) := by decide +kernel
theorem dX4_act_10 : decode cX4_act 10 = .ok (.ireturn, 1) := by decide +kernel
theorem dX4_act_11 : decode cX4_act 11 = .ok (.aload_n 0, 1) := by decide +kernel
theorem dX4_act_12 : decode cX4_act 12 = .ok (.getfield 95, 3) := by decide +kernel
theorem dX4_act_15 : decode cX4_act 15 = .ok (.sipush 9999, 3) := by decide +kernel
theorem dX4_act_18 : decode cX4_act 18 = .ok (.if_icmp .ne 6, 3) := by decide +kernel
theorem dX4_act_21 : decode cX4_act 21 = .ok (.bipush (-104), 2) := by decide +kernel
theorem dX4_act_23 : decode cX4_act 23 = .ok (.ireturn, 1) := by decide +kernel
theorem dX4_act_24 : decode cX4_act 24 = .ok (.aload_n 0, 1) := by decide +kernel
theorem dX4_act_25 : decode cX4_act 25 = .ok (.getfield 19, 3) := by decide +kernel
theorem dX4_act_28 : decode cX4_act 28 = .ok (.aload_n 0, 1) := by decide +kernel
theorem dX4_act_29 : decode cX4_act 29 = .ok (.getfield 25, 3) := by decide +kernel
theorem dX4_act_32 : decode cX4_act 32 = .ok (.invokestatic 186, 3) := by decide +kernel
theorem dX4_act_35 : decode cX4_act 35 = .ok (.aload_n 0, 1) := by decide +kernel
theorem dX4_act_36 : decode cX4_act 36 = .ok (.iload_n 1, 1) := by decide +kernel
theorem dX4_act_37 : decode cX4_act 37 = .ok (.invokevirtual 190, 3) := by decide +kernel
theorem dX4_act_40 : decode cX4_act 40 = .ok (.aload_n 0, 1) := by decide +kernel
theorem dX4_act_41 : decode cX4_act 41 = .ok (.getfield 25, 3) := by decide +kernel
theorem dX4_act_44 : decode cX4_act 44 = .ok (.aload_n 0, 1) := by decide +kernel
theorem dX4_act_45 : decode cX4_act 45 = .ok (.getfield 19, 3) := by decide +kernel
theorem dX4_act_48 : decode cX4_act 48 = .ok (.invokestatic 186, 3) := by decide +kernel
theorem dX4_act_51 : decode cX4_act 51 = .ok (.aload_n 0, 1) := by decide +kernel
theorem dX4_act_52 : decode cX4_act 52 = .ok (.dup, 1) := by decide +kernel
theorem dX4_act_53 : decode cX4_act 53 = .ok (.getfield 95, 3) := by decide +kernel
theorem dX4_act_56 : decode cX4_act 56 = .ok (.iconst 1, 1) := by decide +kernel
theorem dX4_act_57 : decode cX4_act 57 = .ok (.iadd, 1) := by decide +kernel
theorem dX4_act_58 : decode cX4_act 58 = .ok (.putfield 95, 3) := by decide +kernel
theorem dX4_act_61 : decode cX4_act 61 = .ok (.aload_n 0, 1) := by decide +kernel
theorem dX4_act_62 : decode cX4_act 62 = .ok (.getfield 19, 3) := by decide +kernel
theorem dX4_act_65 : decode cX4_act 65 = .ok (.iconst 0, 1) := by decide +kernel
theorem dX4_act_66 : decode cX4_act 66 = .ok (.iaload, 1) := by decide +kernel
theorem dX4_act_67 : decode cX4_act 67 = .ok (.ireturn, 1) := by decide +kernel
theorem dX4_whole_0 : decode cX4_whole 0 = .ok (.aload_n 0, 1) := by decide +kernel
theorem dX4_whole_1 : decode cX4_whole 1 = .ok (.invokevirtual 160, 3) := by decide +kernel
theorem dX4_whole_4 : decode cX4_whole 4 = .ok (.ifCond .eq 6, 3) := by decide +kernel
theorem dX4_whole_7 : decode cX4_whole 7 = .ok (.bipush (-103), 2) := by decide +kernel
theorem dX4_whole_9 : decode cX4_whole 9 = .ok (.ireturn, 1) := by decide +kernel
theorem dX4_whole_10 : decode cX4_whole 10 = .ok (.aload_n 0, 1) := by decide +kernel
theorem dX4_whole_11 : decode cX4_whole 11 = .ok (.getfield 95, 3) := by decide +kernel
theorem dX4_whole_14 : decode cX4_whole 14 = .ok (.aload_n 0, 1) := by decide +kernel
theorem dX4_whole_15 : decode cX4_whole 15 = .ok (.getfield 89, 3) := by decide +kernel
theorem dX4_whole_18 : decode cX4_whole 18 = .ok (.iadd, 1) := by decide +kernel
theorem dX4_whole_19 : decode cX4_whole 19 = .ok (.sipush 9999, 3) := by decide +kernel
theorem dX4_whole_22 : decode cX4_whole 22 = .ok (.if_icmp .le 6, 3) := by decide +kernel
theorem dX4_whole_25 : decode cX4_whole 25 = .ok (.bipush (-104), 2) := by decide +kernel
theorem dX4_whole_27 : decode cX4_whole 27 = .ok (.ireturn, 1) := by decide +kernel
theorem dX4_whole_28 : decode cX4_whole 28 = .ok (.aload_n 0, 1) := by decide +kernel
theorem dX4_whole_29 : decode cX4_whole 29 = .ok (.getfield 19, 3) := by decide +kernel
theorem dX4_whole_32 : decode cX4_whole 32 = .ok (.aload_n 0, 1) := by decide +kernel
theorem dX4_whole_33 : decode cX4_whole 33 = .ok (.getfield 25, 3) := by decide +kernel
theorem dX4_whole_36 : decode cX4_whole 36 = .ok (.invokestatic 186, 3) := by decide +kernel
theorem dX4_whole_39 : decode cX4_whole 39 = .ok (.iconst 0, 1) := by decide +kernel
theorem dX4_whole_40 : decode cX4_whole 40 = .ok (.istore_n 1, 1) := by decide +kernel
theorem dX4_whole_41 : decode cX4_whole 41 = .ok (.iload_n 1, 1) := by decide +kernel
theorem dX4_whole_42 : decode cX4_whole 42 = .ok (.aload_n 0, 1) := by decide +kernel
theorem dX4_whole_43 : decode cX4_whole 43 = .ok (.getfield 89, 3) := by decide +kernel
theorem dX4_whole_46 : decode cX4_whole 46 = .ok (.if_icmp .ge 14, 3) := by decide +kernel
theorem dX4_whole_49 : decode cX4_whole 49 = .ok (.aload_n 0, 1) := by decide +kernel
theorem dX4_whole_50 : decode cX4_whole 50 = .ok (.iload_n 1, 1) := by decide +kernel
theorem dX4_whole_51 : decode cX4_whole 51 = .ok (.invokevirtual 190, 3) := by decide +kernel
theorem dX4_whole_54 : decode cX4_whole 54 = .ok (.iinc 1 1, 3) := by decide +kernel
theorem dX4_whole_57 : decode cX4_whole 57 = .ok (.goto (-16), 3) := by decide +kernel
theorem dX4_whole_60 : decode cX4_whole 60 = .ok (.aload_n 0, 1) := by decide +kernel
theorem dX4_whole_61 : decode cX4_whole 61 = .ok (.getfield 25, 3) := by decide +kernel
theorem dX4_whole_64 : decode cX4_whole 64 = .ok (.aload_n 0, 1) := by decide +kernel
theorem dX4_whole_65 : decode cX4_whole 65 = .ok (.getfield 19, 3) := by decide +kernel
theorem dX4_whole_68 : decode cX4_whole 68 = .ok (.invokestatic 186, 3) := by decide +kernel
theorem dX4_whole_71 : decode cX4_whole 71 = .ok (.aload_n 0, 1) := by decide +kernel
theorem dX4_whole_72 : decode cX4_whole 72 = .ok (.dup, 1) := by decide +kernel
theorem dX4_whole_73 : decode cX4_whole 73 = .ok (.getfield 95, 3) := by decide +kernel
theorem dX4_whole_76 : decode cX4_whole 76 = .ok (.aload_n 0, 1) := by decide +kernel
theorem dX4_whole_77 : decode cX4_whole 77 = .ok (.getfield 89, 3) := by decide +kernel
theorem dX4_whole_80 : decode cX4_whole 80 = .ok (.iadd, 1) := by decide +kernel
theorem dX4_whole_81 : decode cX4_whole 81 = .ok (.putfield 95, 3) := by decide +kernel
theorem dX4_whole_84 : decode cX4_whole 84 = .ok (.aload_n 0, 1) := by decide +kernel
theorem dX4_whole_85 : decode cX4_whole 85 = .ok (.getfield 19, 3) := by decide +kernel
theorem dX4_whole_88 : decode cX4_whole 88 = .ok (.iconst 0, 1) := by decide +kernel
theorem dX4_whole_89 : decode cX4_whole 89 = .ok (.iaload, 1) := by decide +kernel
theorem dX4_whole_90 : decode cX4_whole 90 = .ok (.ireturn, 1) := by decide +kernel
theorem dX4_exchange_0 : decode cX4_exchange 0 = .ok (.aload_n 0, 1) := by decide +kernel
theorem dX4_exchange_1 : decode cX4_exchange 1 = .ok (.iload_n 1, 1) := by decide +kernel
theorem dX4_exchange_2 : decode cX4_exchange 2 = .ok (.invokevirtual 125, 3) := by decide +kernel
theorem dX4_exchange_5 : decode cX4_exchange 5 = .ok (.ifCond .eq 16, 3) := by decide +kernel
theorem dX4_exchange_8 : decode cX4_exchange 8 = .ok (.aload_n 0, 1) := by decide +kernel
theorem dX4_exchange_9 : decode cX4_exchange 9 = .ok (.iload_n 2, 1) := by decide +kernel
theorem dX4_exchange_10 : decode cX4_exchange 10 = .ok (.invokevirtual 125, 3) := by decide +kernel
theorem dX4_exchange_13 : decode cX4_exchange 13 = .ok (.ifCond .eq 8, 3) := by decide +kernel
theorem dX4_exchange_16 : decode cX4_exchange 16 = .ok (.iload_n 1, 1) := by decide +kernel
theorem dX4_exchange_17 : decode cX4_exchange 17 = .ok (.iload_n 2, 1) := by decide +kernel
theorem dX4_exchange_18 : decode cX4_exchange 18 = .ok (.if_icmp .ne 6, 3) := by decide +kernel
theorem dX4_exchange_21 : decode cX4_exchange 21 = .ok (.bipush (-101), 2) := by decide +kernel
theorem dX4_exchange_23 : decode cX4_exchange 23 = .ok (.ireturn, 1) := by decide +kernel
theorem dX4_exchange_24 : decode cX4_exchange 24 = .ok (.aload_n 0, 1) := by decide +kernel
theorem dX4_exchange_25 : decode cX4_exchange 25 = .ok (.getfield 19, 3) := by decide +kernel
theorem dX4_exchange_28 : decode cX4_exchange 28 = .ok (.iload_n 1, 1) := by decide +kernel
theorem dX4_exchange_29 : decode cX4_exchange 29 = .ok (.iaload, 1) := by decide +kernel
theorem dX4_exchange_30 : decode cX4_exchange 30 = .ok (.istore_n 3, 1) := by decide +kernel
theorem dX4_exchange_31 : decode cX4_exchange 31 = .ok (.aload_n 0, 1) := by decide +kernel
theorem dX4_exchange_32 : decode cX4_exchange 32 = .ok (.getfield 19, 3) := by decide +kernel
theorem dX4_exchange_35 : decode cX4_exchange 35 = .ok (.iload_n 1, 1) := by decide +kernel
theorem dX4_exchange_36 : decode cX4_exchange 36 = .ok (.aload_n 0, 1) := by decide +kernel
theorem dX4_exchange_37 : decode cX4_exchange 37 = .ok (.getfield 19, 3) := by decide +kernel
theorem dX4_exchange_40 : decode cX4_exchange 40 = .ok (.iload_n 2, 1) := by decide +kernel
theorem dX4_exchange_41 : decode cX4_exchange 41 = .ok (.iaload, 1) := by decide +kernel
theorem dX4_exchange_42 : decode cX4_exchange 42 = .ok (.iastore, 1) := by decide +kernel
theorem dX4_exchange_43 : decode cX4_exchange 43 = .ok (.aload_n 0, 1) := by decide +kernel
theorem dX4_exchange_44 : decode cX4_exchange 44 = .ok (.getfield 19, 3) := by decide +kernel
theorem dX4_exchange_47 : decode cX4_exchange 47 = .ok (.iload_n 2, 1) := by decide +kernel
theorem dX4_exchange_48 : decode cX4_exchange 48 = .ok (.iload_n 3, 1) := by decide +kernel
theorem dX4_exchange_49 : decode cX4_exchange 49 = .ok (.iastore, 1) := by decide +kernel
theorem dX4_exchange_50 : decode cX4_exchange 50 = .ok (.aload_n 0, 1) := by decide +kernel
theorem dX4_exchange_51 : decode cX4_exchange 51 = .ok (.getfield 19, 3) := by decide +kernel
theorem dX4_exchange_54 : decode cX4_exchange 54 = .ok (.iconst 0, 1) := by decide +kernel
theorem dX4_exchange_55 : decode cX4_exchange 55 = .ok (.iaload, 1) := by decide +kernel
theorem dX4_exchange_56 : decode cX4_exchange 56 = .ok (.ireturn, 1) := by decide +kernel
theorem dX4_homely_0 : decode cX4_homely 0 = .ok (.iconst 0, 1) := by decide +kernel
theorem dX4_homely_1 : decode cX4_homely 1 = .ok (.istore_n 2, 1) := by decide +kernel
theorem dX4_homely_2 : decode cX4_homely 2 = .ok (.iconst 0, 1) := by decide +kernel
theorem dX4_homely_3 : decode cX4_homely 3 = .ok (.istore_n 3, 1) := by decide +kernel
theorem dX4_homely_4 : decode cX4_homely 4 = .ok (.iload_n 3, 1) := by decide +kernel
theorem dX4_homely_5 : decode cX4_homely 5 = .ok (.aload_n 0, 1) := by decide +kernel
theorem dX4_homely_6 : decode cX4_homely 6 = .ok (.getfield 86, 3) := by decide +kernel
theorem dX4_homely_9 : decode cX4_homely 9 = .ok (.if_icmp .ge 24, 3) := by decide +kernel
theorem dX4_homely_12 : decode cX4_homely 12 = .ok (.iload_n 2, 1) := by decide +kernel
theorem dX4_homely_13 : decode cX4_homely 13 = .ok (.aload_n 1, 1) := by decide +kernel
theorem dX4_homely_14 : decode cX4_homely 14 = .ok (.iload_n 3, 1) := by decide +kernel
theorem dX4_homely_15 : decode cX4_homely 15 = .ok (.iaload, 1) := by decide +kernel
theorem dX4_homely_16 : decode cX4_homely 16 = .ok (.iload_n 3, 1) := by decide +kernel
theorem dX4_homely_17 : decode cX4_homely 17 = .ok (.if_icmp .ne 7, 3) := by decide +kernel
theorem dX4_homely_20 : decode cX4_homely 20 = .ok (.iconst 1, 1) := by decide +kernel
theorem dX4_homely_21 : decode cX4_homely 21 = .ok (.goto 4, 3) := by decide +kernel
theorem dX4_homely_24 : decode cX4_homely 24 = .ok (.iconst 0, 1) := by decide +kernel
theorem dX4_homely_25 : decode cX4_homely 25 = .ok (.iadd, 1) := by decide +kernel
theorem dX4_homely_26 : decode cX4_homely 26 = .ok (.istore_n 2, 1) := by decide +kernel
theorem dX4_homely_27 : decode cX4_homely 27 = .ok (.iinc 3 1, 3) := by decide +kernel
theorem dX4_homely_30 : decode cX4_homely 30 = .ok (.goto (-26), 3) := by decide +kernel
theorem dX4_homely_33 : decode cX4_homely 33 = .ok (.iload_n 2, 1) := by decide +kernel
theorem dX4_homely_34 : decode cX4_homely 34 = .ok (.ireturn, 1) := by decide +kernel
theorem dX4_sort_0 : decode cX4_sort 0 = .ok (.aload_n 0, 1) := by decide +kernel
theorem dX4_sort_1 : decode cX4_sort 1 = .ok (.invokevirtual 160, 3) := by decide +kernel
theorem dX4_sort_4 : decode cX4_sort 4 = .ok (.ifCond .eq 6, 3) := by decide +kernel
theorem dX4_sort_7 : decode cX4_sort 7 = .ok (.bipush (-103), 2) := by decide +kernel
theorem dX4_sort_9 : decode cX4_sort 9 = .ok (.ireturn, 1) := by decide +kernel
theorem dX4_sort_10 : decode cX4_sort 10 = .ok (.aload_n 0, 1) := by decide +kernel
theorem dX4_sort_11 : decode cX4_sort 11 = .ok (.aload_n 0, 1) := by decide +kernel
theorem dX4_sort_12 : decode cX4_sort 12 = .ok (.getfield 19, 3) := by decide +kernel
theorem dX4_sort_15 : decode cX4_sort 15 = .ok (.invokevirtual 194, 3) := by decide +kernel
theorem dX4_sort_18 : decode cX4_sort 18 = .ok (.istore_n 1, 1) := by decide +kernel
theorem dX4_sort_19 : decode cX4_sort 19 = .ok (.aload_n 0, 1) := by decide +kernel
theorem dX4_sort_20 : decode cX4_sort 20 = .ok (.invokevirtual 92, 3) := by decide +kernel
theorem dX4_sort_23 : decode cX4_sort 23 = .ok (.iload_n 1, 1) := by decide +kernel
theorem dX4_sort_24 : decode cX4_sort 24 = .ok (.ireturn, 1) := by decide +kernel
theorem dX4_change_0 : decode cX4_change 0 = .ok (.aload_n 0, 1) := by decide +kernel
theorem dX4_change_1 : decode cX4_change 1 = .ok (.iload_n 1, 1) := by decide +kernel
theorem dX4_change_2 : decode cX4_change 2 = .ok (.invokevirtual 122, 3) := by decide +kernel
theorem dX4_change_5 : decode cX4_change 5 = .ok (.ifCond .ne 6, 3) := by decide +kernel
theorem dX4_change_8 : decode cX4_change 8 = .ok (.bipush (-101), 2) := by decide +kernel
theorem dX4_change_10 : decode cX4_change 10 = .ok (.ireturn, 1) := by decide +kernel
theorem dX4_change_11 : decode cX4_change 11 = .ok (.iload_n 2, 1) := by decide +kernel
theorem dX4_change_12 : decode cX4_change 12 = .ok (.i2l, 1) := by decide +kernel
theorem dX4_change_13 : decode cX4_change 13 = .ok (.lconst 0, 1) := by decide +kernel
theorem dX4_change_14 : decode cX4_change 14 = .ok (.ldc2_w 184, 3) := by decide +kernel
theorem dX4_change_17 : decode cX4_change 17 = .ok (.invokestatic 61, 3) := by decide +kernel
theorem dX4_change_20 : decode cX4_change 20 = .ok (.ifCond .eq 15, 3) := by decide +kernel
theorem dX4_change_23 : decode cX4_change 23 = .ok (.iload_n 3, 1) := by decide +kernel
theorem dX4_change_24 : decode cX4_change 24 = .ok (.i2l, 1) := by decide +kernel
theorem dX4_change_25 : decode cX4_change 25 = .ok (.lconst 0, 1) := by decide +kernel
theorem dX4_change_26 : decode cX4_change 26 = .ok (.ldc2_w 198, 3) := by decide +kernel
theorem dX4_change_29 : decode cX4_change 29 = .ok (.invokestatic 61, 3) := by decide +kernel
theorem dX4_change_32 : decode cX4_change 32 = .ok (.ifCond .ne 6, 3) := by decide +kernel
theorem dX4_change_35 : decode cX4_change 35 = .ok (.bipush (-102), 2) := by decide +kernel
theorem dX4_change_37 : decode cX4_change 37 = .ok (.ireturn, 1) := by decide +kernel
theorem dX4_change_38 : decode cX4_change 38 = .ok (.aload_n 0, 1) := by decide +kernel
theorem dX4_change_39 : decode cX4_change 39 = .ok (.getfield 13, 3) := by decide +kernel
theorem dX4_change_42 : decode cX4_change 42 = .ok (.iload_n 1, 1) := by decide +kernel
theorem dX4_change_43 : decode cX4_change 43 = .ok (.iaload, 1) := by decide +kernel
theorem dX4_change_44 : decode cX4_change 44 = .ok (.istore 4, 2) := by decide +kernel
theorem dX4_change_46 : decode cX4_change 46 = .ok (.aload_n 0, 1) := by decide +kernel
theorem dX4_change_47 : decode cX4_change 47 = .ok (.getfield 13, 3) := by decide +kernel
theorem dX4_change_50 : decode cX4_change 50 = .ok (.iload_n 1, 1) := by decide +kernel
theorem dX4_change_51 : decode cX4_change 51 = .ok (.iload_n 2, 1) := by decide +kernel
theorem dX4_change_52 : decode cX4_change 52 = .ok (.iastore, 1) := by decide +kernel
theorem dX4_change_53 : decode cX4_change 53 = .ok (.aload_n 0, 1) := by decide +kernel
theorem dX4_change_54 : decode cX4_change 54 = .ok (.getfield 16, 3) := by decide +kernel
theorem dX4_change_57 : decode cX4_change 57 = .ok (.iload_n 1, 1) := by decide +kernel
theorem dX4_change_58 : decode cX4_change 58 = .ok (.iload_n 3, 1) := by decide +kernel
theorem dX4_change_59 : decode cX4_change 59 = .ok (.iastore, 1) := by decide +kernel
theorem dX4_change_60 : decode cX4_change 60 = .ok (.iload 4, 2) := by decide +kernel
theorem dX4_change_62 : decode cX4_change 62 = .ok (.ireturn, 1) := by decide +kernel
theorem dX4_placeOf_0 : decode cX4_placeOf 0 = .ok (.iconst 0, 1) := by decide +kernel
theorem dX4_placeOf_1 : decode cX4_placeOf 1 = .ok (.istore_n 2, 1) := by decide +kernel
theorem dX4_placeOf_2 : decode cX4_placeOf 2 = .ok (.aload_n 0, 1) := by decide +kernel
theorem dX4_placeOf_3 : decode cX4_placeOf 3 = .ok (.getfield 19, 3) := by decide +kernel
theorem dX4_placeOf_6 : decode cX4_placeOf 6 = .ok (.iload_n 2, 1) := by decide +kernel
theorem dX4_placeOf_7 : decode cX4_placeOf 7 = .ok (.iaload, 1) := by decide +kernel
theorem dX4_placeOf_8 : decode cX4_placeOf 8 = .ok (.iload_n 1, 1) := by decide +kernel
theorem dX4_placeOf_9 : decode cX4_placeOf 9 = .ok (.if_icmp .eq 9, 3) := by decide +kernel
theorem dX4_placeOf_12 : decode cX4_placeOf 12 = .ok (.iinc 2 1, 3) := by decide +kernel
theorem dX4_placeOf_15 : decode cX4_placeOf 15 = .ok (.goto (-13), 3) := by decide +kernel
theorem dX4_placeOf_18 : decode cX4_placeOf 18 = .ok (.iload_n 2, 1) := by decide +kernel
