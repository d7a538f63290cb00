theorem dX4_placeOf_19 : decode cX4_placeOf 19 = .ok (.ireturn, 1) := by decide +kernel
theorem dX4_layFar_0 : decode cX4_layFar 0 = .ok (.iconst 0, 1) := by decide +kernel
theorem dX4_layFar_1 : decode cX4_layFar 1 = .ok (.istore_n 2, 1) := by decide +kernel
theorem dX4_layFar_2 : decode cX4_layFar 2 = .ok (.iload_n 2, 1) := by decide +kernel
theorem dX4_layFar_3 : decode cX4_layFar 3 = .ok (.aload_n 0, 1) := by decide +kernel
theorem dX4_layFar_4 : decode cX4_layFar 4 = .ok (.getfield 86, 3) := by decide +kernel
theorem dX4_layFar_7 : decode cX4_layFar 7 = .ok (.if_icmp .ge 25, 3) := by decide +kernel
theorem dX4_layFar_10 : decode cX4_layFar 10 = .ok (.aload_n 0, 1) := by decide +kernel
theorem dX4_layFar_11 : decode cX4_layFar 11 = .ok (.getfield 31, 3) := by decide +kernel
theorem dX4_layFar_14 : decode cX4_layFar 14 = .ok (.iload_n 2, 1) := by decide +kernel
theorem dX4_layFar_15 : decode cX4_layFar 15 = .ok (.iload_n 2, 1) := by decide +kernel
theorem dX4_layFar_16 : decode cX4_layFar 16 = .ok (.iload_n 1, 1) := by decide +kernel
theorem dX4_layFar_17 : decode cX4_layFar 17 = .ok (.if_icmp .ne 7, 3) := by decide +kernel
theorem dX4_layFar_20 : decode cX4_layFar 20 = .ok (.iconst 0, 1) := by decide +kernel
theorem dX4_layFar_21 : decode cX4_layFar 21 = .ok (.goto 4, 3) := by decide +kernel
theorem dX4_layFar_24 : decode cX4_layFar 24 = .ok (.iconst (-1), 1) := by decide +kernel
theorem dX4_layFar_25 : decode cX4_layFar 25 = .ok (.iastore, 1) := by decide +kernel
theorem dX4_layFar_26 : decode cX4_layFar 26 = .ok (.iinc 2 1, 3) := by decide +kernel
theorem dX4_layFar_29 : decode cX4_layFar 29 = .ok (.goto (-27), 3) := by decide +kernel
theorem dX4_layFar_32 : decode cX4_layFar 32 = .ok (.iconst 0, 1) := by decide +kernel
theorem dX4_layFar_33 : decode cX4_layFar 33 = .ok (.istore_n 2, 1) := by decide +kernel
theorem dX4_layFar_34 : decode cX4_layFar 34 = .ok (.iload_n 2, 1) := by decide +kernel
theorem dX4_layFar_35 : decode cX4_layFar 35 = .ok (.aload_n 0, 1) := by decide +kernel
theorem dX4_layFar_36 : decode cX4_layFar 36 = .ok (.getfield 86, 3) := by decide +kernel
theorem dX4_layFar_39 : decode cX4_layFar 39 = .ok (.if_icmp .ge 80, 3) := by decide +kernel
theorem dX4_layFar_42 : decode cX4_layFar 42 = .ok (.iconst 0, 1) := by decide +kernel
theorem dX4_layFar_43 : decode cX4_layFar 43 = .ok (.istore_n 3, 1) := by decide +kernel
theorem dX4_layFar_44 : decode cX4_layFar 44 = .ok (.iload_n 3, 1) := by decide +kernel
theorem dX4_layFar_45 : decode cX4_layFar 45 = .ok (.aload_n 0, 1) := by decide +kernel
theorem dX4_layFar_46 : decode cX4_layFar 46 = .ok (.getfield 86, 3) := by decide +kernel
theorem dX4_layFar_49 : decode cX4_layFar 49 = .ok (.aload_n 0, 1) := by decide +kernel
theorem dX4_layFar_50 : decode cX4_layFar 50 = .ok (.getfield 89, 3) := by decide +kernel
theorem dX4_layFar_53 : decode cX4_layFar 53 = .ok (.imul, 1) := by decide +kernel
theorem dX4_layFar_54 : decode cX4_layFar 54 = .ok (.if_icmp .ge 59, 3) := by decide +kernel
theorem dX4_layFar_57 : decode cX4_layFar 57 = .ok (.iload_n 3, 1) := by decide +kernel
theorem dX4_layFar_58 : decode cX4_layFar 58 = .ok (.aload_n 0, 1) := by decide +kernel
theorem dX4_layFar_59 : decode cX4_layFar 59 = .ok (.getfield 89, 3) := by decide +kernel
theorem dX4_layFar_62 : decode cX4_layFar 62 = .ok (.idiv, 1) := by decide +kernel
theorem dX4_layFar_63 : decode cX4_layFar 63 = .ok (.istore 4, 2) := by decide +kernel
theorem dX4_layFar_65 : decode cX4_layFar 65 = .ok (.aload_n 0, 1) := by decide +kernel
theorem dX4_layFar_66 : decode cX4_layFar 66 = .ok (.getfield 31, 3) := by decide +kernel
theorem dX4_layFar_69 : decode cX4_layFar 69 = .ok (.iload 4, 2) := by decide +kernel
theorem dX4_layFar_71 : decode cX4_layFar 71 = .ok (.iaload, 1) := by decide +kernel
theorem dX4_layFar_72 : decode cX4_layFar 72 = .ok (.iconst (-1), 1) := by decide +kernel
theorem dX4_layFar_73 : decode cX4_layFar 73 = .ok (.if_icmp .ne 34, 3) := by decide +kernel
theorem dX4_layFar_76 : decode cX4_layFar 76 = .ok (.aload_n 0, 1) := by decide +kernel
theorem dX4_layFar_77 : decode cX4_layFar 77 = .ok (.getfield 31, 3) := by decide +kernel
theorem dX4_layFar_80 : decode cX4_layFar 80 = .ok (.aload_n 0, 1) := by decide +kernel
theorem dX4_layFar_81 : decode cX4_layFar 81 = .ok (.iload_n 3, 1) := by decide +kernel
theorem dX4_layFar_82 : decode cX4_layFar 82 = .ok (.aload_n 0, 1) := by decide +kernel
theorem dX4_layFar_83 : decode cX4_layFar 83 = .ok (.getfield 89, 3) := by decide +kernel
theorem dX4_layFar_86 : decode cX4_layFar 86 = .ok (.irem, 1) := by decide +kernel
theorem dX4_layFar_87 : decode cX4_layFar 87 = .ok (.iload 4, 2) := by decide +kernel
theorem dX4_layFar_89 : decode cX4_layFar 89 = .ok (.invokevirtual 128, 3) := by decide +kernel
theorem dX4_layFar_92 : decode cX4_layFar 92 = .ok (.iaload, 1) := by decide +kernel
theorem dX4_layFar_93 : decode cX4_layFar 93 = .ok (.iload_n 2, 1) := by decide +kernel
theorem dX4_layFar_94 : decode cX4_layFar 94 = .ok (.if_icmp .ne 13, 3) := by decide +kernel
theorem dX4_layFar_97 : decode cX4_layFar 97 = .ok (.aload_n 0, 1) := by decide +kernel
theorem dX4_layFar_98 : decode cX4_layFar 98 = .ok (.getfield 31, 3) := by decide +kernel
theorem dX4_layFar_101 : decode cX4_layFar 101 = .ok (.iload 4, 2) := by decide +kernel
theorem dX4_layFar_103 : decode cX4_layFar 103 = .ok (.iload_n 2, 1) := by decide +kernel
theorem dX4_layFar_104 : decode cX4_layFar 104 = .ok (.iconst 1, 1) := by decide +kernel
theorem dX4_layFar_105 : decode cX4_layFar 105 = .ok (.iadd, 1) := by decide +kernel
theorem dX4_layFar_106 : decode cX4_layFar 106 = .ok (.iastore, 1) := by decide +kernel
theorem dX4_layFar_107 : decode cX4_layFar 107 = .ok (.iinc 3 1, 3) := by decide +kernel
theorem dX4_layFar_110 : decode cX4_layFar 110 = .ok (.goto (-66), 3) := by decide +kernel
theorem dX4_layFar_113 : decode cX4_layFar 113 = .ok (.iinc 2 1, 3) := by decide +kernel
theorem dX4_layFar_116 : decode cX4_layFar 116 = .ok (.goto (-82), 3) := by decide +kernel
theorem dX4_layFar_119 : decode cX4_layFar 119 = .ok (.return_, 1) := by decide +kernel
theorem dX4_bringOf_0 : decode cX4_bringOf 0 = .ok (.aload_n 0, 1) := by decide +kernel
theorem dX4_bringOf_1 : decode cX4_bringOf 1 = .ok (.iload_n 2, 1) := by decide +kernel
theorem dX4_bringOf_2 : decode cX4_bringOf 2 = .ok (.invokevirtual 200, 3) := by decide +kernel
theorem dX4_bringOf_5 : decode cX4_bringOf 5 = .ok (.aload_n 0, 1) := by decide +kernel
theorem dX4_bringOf_6 : decode cX4_bringOf 6 = .ok (.iload_n 1, 1) := by decide +kernel
theorem dX4_bringOf_7 : decode cX4_bringOf 7 = .ok (.invokevirtual 203, 3) := by decide +kernel
theorem dX4_bringOf_10 : decode cX4_bringOf 10 = .ok (.istore 4, 2) := by decide +kernel
theorem dX4_bringOf_12 : decode cX4_bringOf 12 = .ok (.iload_n 3, 1) := by decide +kernel
theorem dX4_bringOf_13 : decode cX4_bringOf 13 = .ok (.ifCond .eq 14, 3) := by decide +kernel
theorem dX4_bringOf_16 : decode cX4_bringOf 16 = .ok (.aload_n 0, 1) := by decide +kernel
theorem dX4_bringOf_17 : decode cX4_bringOf 17 = .ok (.getfield 31, 3) := by decide +kernel
theorem dX4_bringOf_20 : decode cX4_bringOf 20 = .ok (.iload 4, 2) := by decide +kernel
theorem dX4_bringOf_22 : decode cX4_bringOf 22 = .ok (.iaload, 1) := by decide +kernel
theorem dX4_bringOf_23 : decode cX4_bringOf 23 = .ok (.iconst 1, 1) := by decide +kernel
theorem dX4_bringOf_24 : decode cX4_bringOf 24 = .ok (.if_icmp .ge 19, 3) := by decide +kernel
theorem dX4_bringOf_27 : decode cX4_bringOf 27 = .ok (.iload_n 3, 1) := by decide +kernel
theorem dX4_bringOf_28 : decode cX4_bringOf 28 = .ok (.ifCond .ne 13, 3) := by decide +kernel
theorem dX4_bringOf_31 : decode cX4_bringOf 31 = .ok (.aload_n 0, 1) := by decide +kernel
theorem dX4_bringOf_32 : decode cX4_bringOf 32 = .ok (.getfield 31, 3) := by decide +kernel
theorem dX4_bringOf_35 : decode cX4_bringOf 35 = .ok (.iload 4, 2) := by decide +kernel
theorem dX4_bringOf_37 : decode cX4_bringOf 37 = .ok (.iaload, 1) := by decide +kernel
theorem dX4_bringOf_38 : decode cX4_bringOf 38 = .ok (.goto 4, 3) := by decide +kernel
theorem dX4_bringOf_41 : decode cX4_bringOf 41 = .ok (.iconst (-1), 1) := by decide +kernel
theorem dX4_bringOf_42 : decode cX4_bringOf 42 = .ok (.ireturn, 1) := by decide +kernel
theorem dX4_bringOf_43 : decode cX4_bringOf 43 = .ok (.iconst 0, 1) := by decide +kernel
theorem dX4_bringOf_44 : decode cX4_bringOf 44 = .ok (.istore 5, 2) := by decide +kernel
theorem dX4_bringOf_46 : decode cX4_bringOf 46 = .ok (.aload_n 0, 1) := by decide +kernel
theorem dX4_bringOf_47 : decode cX4_bringOf 47 = .ok (.getfield 31, 3) := by decide +kernel
theorem dX4_bringOf_50 : decode cX4_bringOf 50 = .ok (.aload_n 0, 1) := by decide +kernel
theorem dX4_bringOf_51 : decode cX4_bringOf 51 = .ok (.iload 5, 2) := by decide +kernel
theorem dX4_bringOf_53 : decode cX4_bringOf 53 = .ok (.iload 4, 2) := by decide +kernel
theorem dX4_bringOf_55 : decode cX4_bringOf 55 = .ok (.invokevirtual 128, 3) := by decide +kernel
theorem dX4_bringOf_58 : decode cX4_bringOf 58 = .ok (.iaload, 1) := by decide +kernel
theorem dX4_bringOf_59 : decode cX4_bringOf 59 = .ok (.aload_n 0, 1) := by decide +kernel
theorem dX4_bringOf_60 : decode cX4_bringOf 60 = .ok (.getfield 31, 3) := by decide +kernel
theorem dX4_bringOf_63 : decode cX4_bringOf 63 = .ok (.iload 4, 2) := by decide +kernel
theorem dX4_bringOf_65 : decode cX4_bringOf 65 = .ok (.iaload, 1) := by decide +kernel
theorem dX4_bringOf_66 : decode cX4_bringOf 66 = .ok (.iconst 1, 1) := by decide +kernel
theorem dX4_bringOf_67 : decode cX4_bringOf 67 = .ok (.isub, 1) := by decide +kernel
theorem dX4_bringOf_68 : decode cX4_bringOf 68 = .ok (.if_icmp .eq 9, 3) := by decide +kernel
theorem dX4_bringOf_71 : decode cX4_bringOf 71 = .ok (.iinc 5 1, 3) := by decide +kernel
theorem dX4_bringOf_74 : decode cX4_bringOf 74 = .ok (.goto (-28), 3) := by decide +kernel
theorem dX4_bringOf_77 : decode cX4_bringOf 77 = .ok (.iload 5, 2) := by decide +kernel
theorem dX4_bringOf_79 : decode cX4_bringOf 79 = .ok (.ireturn, 1) := by decide +kernel
theorem dX4_bring_0 : decode cX4_bring 0 = .ok (.aload_n 0, 1) := by decide +kernel
theorem dX4_bring_1 : decode cX4_bring 1 = .ok (.iload_n 1, 1) := by decide +kernel
theorem dX4_bring_2 : decode cX4_bring 2 = .ok (.invokevirtual 125, 3) := by decide +kernel
theorem dX4_bring_5 : decode cX4_bring 5 = .ok (.ifCond .eq 11, 3) := by decide +kernel
theorem dX4_bring_8 : decode cX4_bring 8 = .ok (.aload_n 0, 1) := by decide +kernel
theorem dX4_bring_9 : decode cX4_bring 9 = .ok (.iload_n 2, 1) := by decide +kernel
theorem dX4_bring_10 : decode cX4_bring 10 = .ok (.invokevirtual 125, 3) := by decide +kernel
theorem dX4_bring_13 : decode cX4_bring 13 = .ok (.ifCond .ne 6, 3) := by decide +kernel
theorem dX4_bring_16 : decode cX4_bring 16 = .ok (.bipush (-101), 2) := by decide +kernel
theorem dX4_bring_18 : decode cX4_bring 18 = .ok (.ireturn, 1) := by decide +kernel
theorem dX4_bring_19 : decode cX4_bring 19 = .ok (.iload_n 3, 1) := by decide +kernel
theorem dX4_bring_20 : decode cX4_bring 20 = .ok (.i2l, 1) := by decide +kernel
theorem dX4_bring_21 : decode cX4_bring 21 = .ok (.lconst 0, 1) := by decide +kernel
theorem dX4_bring_22 : decode cX4_bring 22 = .ok (.lconst 1, 1) := by decide +kernel
theorem dX4_bring_23 : decode cX4_bring 23 = .ok (.invokestatic 61, 3) := by decide +kernel
theorem dX4_bring_26 : decode cX4_bring 26 = .ok (.ifCond .eq 13, 3) := by decide +kernel
theorem dX4_bring_29 : decode cX4_bring 29 = .ok (.aload_n 0, 1) := by decide +kernel
theorem dX4_bring_30 : decode cX4_bring 30 = .ok (.iload_n 1, 1) := by decide +kernel
theorem dX4_bring_31 : decode cX4_bring 31 = .ok (.iload_n 2, 1) := by decide +kernel
theorem dX4_bring_32 : decode cX4_bring 32 = .ok (.iload_n 3, 1) := by decide +kernel
theorem dX4_bring_33 : decode cX4_bring 33 = .ok (.invokevirtual 206, 3) := by decide +kernel
theorem dX4_bring_36 : decode cX4_bring 36 = .ok (.goto 5, 3) := by decide +kernel
theorem dX4_bring_39 : decode cX4_bring 39 = .ok (.bipush (-102), 2) := by decide +kernel
theorem dX4_bring_41 : decode cX4_bring 41 = .ok (.ireturn, 1) := by decide +kernel
theorem dX4_power_0 : decode cX4_power 0 = .ok (.iconst 1, 1) := by decide +kernel
theorem dX4_power_1 : decode cX4_power 1 = .ok (.istore_n 2, 1) := by decide +kernel
theorem dX4_power_2 : decode cX4_power 2 = .ok (.iconst 0, 1) := by decide +kernel
theorem dX4_power_3 : decode cX4_power 3 = .ok (.istore_n 3, 1) := by decide +kernel
theorem dX4_power_4 : decode cX4_power 4 = .ok (.iload_n 3, 1) := by decide +kernel
theorem dX4_power_5 : decode cX4_power 5 = .ok (.iload_n 1, 1) := by decide +kernel
theorem dX4_power_6 : decode cX4_power 6 = .ok (.if_icmp .ge 13, 3) := by decide +kernel
theorem dX4_power_9 : decode cX4_power 9 = .ok (.iload_n 2, 1) := by decide +kernel
theorem dX4_power_10 : decode cX4_power 10 = .ok (.iload_n 0, 1) := by decide +kernel
theorem dX4_power_11 : decode cX4_power 11 = .ok (.imul, 1) := by decide +kernel
theorem dX4_power_12 : decode cX4_power 12 = .ok (.istore_n 2, 1) := by decide +kernel
theorem dX4_power_13 : decode cX4_power 13 = .ok (.iinc 3 1, 3) := by decide +kernel
theorem dX4_power_16 : decode cX4_power 16 = .ok (.goto (-12), 3) := by decide +kernel
theorem dX4_power_19 : decode cX4_power 19 = .ok (.iload_n 2, 1) := by decide +kernel
theorem dX4_power_20 : decode cX4_power 20 = .ok (.ireturn, 1) := by decide +kernel
theorem dX4_isHomeBy_0 : decode cX4_isHomeBy 0 = .ok (.aload_n 0, 1) := by decide +kernel
theorem dX4_isHomeBy_1 : decode cX4_isHomeBy 1 = .ok (.getfield 19, 3) := by decide +kernel
theorem dX4_isHomeBy_4 : decode cX4_isHomeBy 4 = .ok (.aload_n 0, 1) := by decide +kernel
theorem dX4_isHomeBy_5 : decode cX4_isHomeBy 5 = .ok (.getfield 25, 3) := by decide +kernel
theorem dX4_isHomeBy_8 : decode cX4_isHomeBy 8 = .ok (.invokestatic 186, 3) := by decide +kernel
theorem dX4_isHomeBy_11 : decode cX4_isHomeBy 11 = .ok (.aload_n 0, 1) := by decide +kernel
theorem dX4_isHomeBy_12 : decode cX4_isHomeBy 12 = .ok (.iconst 0, 1) := by decide +kernel
theorem dX4_isHomeBy_13 : decode cX4_isHomeBy 13 = .ok (.putfield 209, 3) := by decide +kernel
theorem dX4_isHomeBy_16 : decode cX4_isHomeBy 16 = .ok (.iload_n 2, 1) := by decide +kernel
theorem dX4_isHomeBy_17 : decode cX4_isHomeBy 17 = .ok (.iconst 1, 1) := by decide +kernel
theorem dX4_isHomeBy_18 : decode cX4_isHomeBy 18 = .ok (.isub, 1) := by decide +kernel
theorem dX4_isHomeBy_19 : decode cX4_isHomeBy 19 = .ok (.istore_n 3, 1) := by decide +kernel
theorem dX4_isHomeBy_20 : decode cX4_isHomeBy 20 = .ok (.iload_n 3, 1) := by decide +kernel
theorem dX4_isHomeBy_21 : decode cX4_isHomeBy 21 = .ok (.ifCond .lt 48, 3) := by decide +kernel
theorem dX4_isHomeBy_24 : decode cX4_isHomeBy 24 = .ok (.iload_n 1, 1) := by decide +kernel
theorem dX4_isHomeBy_25 : decode cX4_isHomeBy 25 = .ok (.aload_n 0, 1) := by decide +kernel
theorem dX4_isHomeBy_26 : decode cX4_isHomeBy 26 = .ok (.getfield 89, 3) := by decide +kernel
theorem dX4_isHomeBy_29 : decode cX4_isHomeBy 29 = .ok (.iload_n 3, 1) := by decide +kernel
theorem dX4_isHomeBy_30 : decode cX4_isHomeBy 30 = .ok (.invokestatic 212, 3) := by decide +kernel
theorem dX4_isHomeBy_33 : decode cX4_isHomeBy 33 = .ok (.idiv, 1) := by decide +kernel
theorem dX4_isHomeBy_34 : decode cX4_isHomeBy 34 = .ok (.aload_n 0, 1) := by decide +kernel
theorem dX4_isHomeBy_35 : decode cX4_isHomeBy 35 = .ok (.getfield 89, 3) := by decide +kernel
theorem dX4_isHomeBy_38 : decode cX4_isHomeBy 38 = .ok (.irem, 1) := by decide +kernel
theorem dX4_isHomeBy_39 : decode cX4_isHomeBy 39 = .ok (.istore 4, 2) := by decide +kernel
theorem dX4_isHomeBy_41 : decode cX4_isHomeBy 41 = .ok (.aload_n 0, 1) := by decide +kernel
theorem dX4_isHomeBy_42 : decode cX4_isHomeBy 42 = .ok (.bipush 10, 2) := by decide +kernel
theorem dX4_isHomeBy_44 : decode cX4_isHomeBy 44 = .ok (.aload_n 0, 1) := by decide +kernel
theorem dX4_isHomeBy_45 : decode cX4_isHomeBy 45 = .ok (.getfield 209, 3) := by decide +kernel
theorem dX4_isHomeBy_48 : decode cX4_isHomeBy 48 = .ok (.imul, 1) := by decide +kernel
theorem dX4_isHomeBy_49 : decode cX4_isHomeBy 49 = .ok (.iload 4, 2) := by decide +kernel
theorem dX4_isHomeBy_51 : decode cX4_isHomeBy 51 = .ok (.iadd, 1) := by decide +kernel
theorem dX4_isHomeBy_52 : decode cX4_isHomeBy 52 = .ok (.iconst 1, 1) := by decide +kernel
theorem dX4_isHomeBy_53 : decode cX4_isHomeBy 53 = .ok (.iadd, 1) := by decide +kernel
theorem dX4_isHomeBy_54 : decode cX4_isHomeBy 54 = .ok (.putfield 209, 3) := by decide +kernel
theorem dX4_isHomeBy_57 : decode cX4_isHomeBy 57 = .ok (.aload_n 0, 1) := by decide +kernel
theorem dX4_isHomeBy_58 : decode cX4_isHomeBy 58 = .ok (.iload 4, 2) := by decide +kernel
theorem dX4_isHomeBy_60 : decode cX4_isHomeBy 60 = .ok (.invokevirtual 190, 3) := by decide +kernel
theorem dX4_isHomeBy_63 : decode cX4_isHomeBy 63 = .ok (.iinc 3 (-1), 3) := by decide +kernel
theorem dX4_isHomeBy_66 : decode cX4_isHomeBy 66 = .ok (.goto (-46), 3) := by decide +kernel
theorem dX4_isHomeBy_69 : decode cX4_isHomeBy 69 = .ok (.aload_n 0, 1) := by decide +kernel
theorem dX4_isHomeBy_70 : decode cX4_isHomeBy 70 = .ok (.aload_n 0, 1) := by decide +kernel
theorem dX4_isHomeBy_71 : decode cX4_isHomeBy 71 = .ok (.getfield 25, 3) := by decide +kernel
theorem dX4_isHomeBy_74 : decode cX4_isHomeBy 74 = .ok (.invokevirtual 194, 3) := by decide +kernel
theorem dX4_isHomeBy_77 : decode cX4_isHomeBy 77 = .ok (.aload_n 0, 1) := by decide +kernel
theorem dX4_isHomeBy_78 : decode cX4_isHomeBy 78 = .ok (.getfield 86, 3) := by decide +kernel
theorem dX4_isHomeBy_81 : decode cX4_isHomeBy 81 = .ok (.if_icmp .ne 7, 3) := by decide +kernel
theorem dX4_isHomeBy_84 : decode cX4_isHomeBy 84 = .ok (.iconst 1, 1) := by decide +kernel
theorem dX4_isHomeBy_85 : decode cX4_isHomeBy 85 = .ok (.goto 4, 3) := by decide +kernel
theorem dX4_isHomeBy_88 : decode cX4_isHomeBy 88 = .ok (.iconst 0, 1) := by decide +kernel
theorem dX4_isHomeBy_89 : decode cX4_isHomeBy 89 = .ok (.ireturn, 1) := by decide +kernel
theorem dX4_homeOf_0 : decode cX4_homeOf 0 = .ok (.iconst 0, 1) := by decide +kernel
theorem dX4_homeOf_1 : decode cX4_homeOf 1 = .ok (.istore_n 2, 1) := by decide +kernel
theorem dX4_homeOf_2 : decode cX4_homeOf 2 = .ok (.iload_n 2, 1) := by decide +kernel
theorem dX4_homeOf_3 : decode cX4_homeOf 3 = .ok (.iconst 5, 1) := by decide +kernel
theorem dX4_homeOf_4 : decode cX4_homeOf 4 = .ok (.if_icmp .ge 51, 3) := by decide +kernel
theorem dX4_homeOf_7 : decode cX4_homeOf 7 = .ok (.iconst 0, 1) := by decide +kernel
theorem dX4_homeOf_8 : decode cX4_homeOf 8 = .ok (.istore_n 3, 1) := by decide +kernel
theorem dX4_homeOf_9 : decode cX4_homeOf 9 = .ok (.iload_n 3, 1) := by decide +kernel
theorem dX4_homeOf_10 : decode cX4_homeOf 10 = .ok (.aload_n 0, 1) := by decide +kernel
theorem dX4_homeOf_11 : decode cX4_homeOf 11 = .ok (.getfield 89, 3) := by decide +kernel
theorem dX4_homeOf_14 : decode cX4_homeOf 14 = .ok (.iload_n 2, 1) := by decide +kernel
theorem dX4_homeOf_15 : decode cX4_homeOf 15 = .ok (.invokestatic 212, 3) := by decide +kernel
theorem dX4_homeOf_18 : decode cX4_homeOf 18 = .ok (.if_icmp .ge 31, 3) := by decide +kernel
theorem dX4_homeOf_21 : decode cX4_homeOf 21 = .ok (.aload_n 0, 1) := by decide +kernel
theorem dX4_homeOf_22 : decode cX4_homeOf 22 = .ok (.iload_n 3, 1) := by decide +kernel
theorem dX4_homeOf_23 : decode cX4_homeOf 23 = .ok (.iload_n 2, 1) := by decide +kernel
theorem dX4_homeOf_24 : decode cX4_homeOf 24 = .ok (.invokevirtual 215, 3) := by decide +kernel
theorem dX4_homeOf_27 : decode cX4_homeOf 27 = .ok (.ifCond .eq 16, 3) := by decide +kernel
theorem dX4_homeOf_30 : decode cX4_homeOf 30 = .ok (.iload_n 1, 1) := by decide +kernel
theorem dX4_homeOf_31 : decode cX4_homeOf 31 = .ok (.ifCond .ne 7, 3) := by decide +kernel
theorem dX4_homeOf_34 : decode cX4_homeOf 34 = .ok (.iload_n 2, 1) := by decide +kernel
theorem dX4_homeOf_35 : decode cX4_homeOf 35 = .ok (.goto 7, 3) := by decide +kernel
theorem dX4_homeOf_38 : decode cX4_homeOf 38 = .ok (.aload_n 0, 1) := by decide +kernel
theorem dX4_homeOf_39 : decode cX4_homeOf 39 = .ok (.getfield 209, 3) := by decide +kernel
theorem dX4_homeOf_42 : decode cX4_homeOf 42 = .ok (.ireturn, 1) := by decide +kernel
theorem dX4_homeOf_43 : decode cX4_homeOf 43 = .ok (.iinc 3 1, 3) := by decide +kernel
theorem dX4_homeOf_46 : decode cX4_homeOf 46 = .ok (.goto (-37), 3) := by decide +kernel
theorem dX4_homeOf_49 : decode cX4_homeOf 49 = .ok (.iinc 2 1, 3) := by decide +kernel
theorem dX4_homeOf_52 : decode cX4_homeOf 52 = .ok (.goto (-50), 3) := by decide +kernel
theorem dX4_homeOf_55 : decode cX4_homeOf 55 = .ok (.iconst (-1), 1) := by decide +kernel
theorem dX4_homeOf_56 : decode cX4_homeOf 56 = .ok (.ireturn, 1) := by decide +kernel
theorem dX4_home_0 : decode cX4_home 0 = .ok (.iload_n 1, 1) := by decide +kernel
theorem dX4_home_1 : decode cX4_home 1 = .ok (.i2l, 1) := by decide +kernel
theorem dX4_home_2 : decode cX4_home 2 = .ok (.lconst 0, 1) := by decide +kernel
theorem dX4_home_3 : decode cX4_home 3 = .ok (.lconst 1, 1) := by decide +kernel
theorem dX4_home_4 : decode cX4_home 4 = .ok (.invokestatic 61, 3) := by decide +kernel
theorem dX4_home_7 : decode cX4_home 7 = .ok (.ifCond .ne 6, 3) := by decide +kernel
theorem dX4_home_10 : decode cX4_home 10 = .ok (.bipush (-102), 2) := by decide +kernel
theorem dX4_home_12 : decode cX4_home 12 = .ok (.ireturn, 1) := by decide +kernel
theorem dX4_home_13 : decode cX4_home 13 = .ok (.aload_n 0, 1) := by decide +kernel
theorem dX4_home_14 : decode cX4_home 14 = .ok (.invokevirtual 160, 3) := by decide +kernel
theorem dX4_home_17 : decode cX4_home 17 = .ok (.ifCond .ne 12, 3) := by decide +kernel
theorem dX4_home_20 : decode cX4_home 20 = .ok (.aload_n 0, 1) := by decide +kernel
theorem dX4_home_21 : decode cX4_home 21 = .ok (.getfield 219, 3) := by decide +kernel
theorem dX4_home_24 : decode cX4_home 24 = .ok (.bipush 30, 2) := by decide +kernel
theorem dX4_home_26 : decode cX4_home 26 = .ok (.if_icmp .ne 6, 3) := by decide +kernel
theorem dX4_home_29 : decode cX4_home 29 = .ok (.bipush (-103), 2) := by decide +kernel
theorem dX4_home_31 : decode cX4_home 31 = .ok (.ireturn, 1) := by decide +kernel
theorem dX4_home_32 : decode cX4_home 32 = .ok (.aload_n 0, 1) := by decide +kernel
theorem dX4_home_33 : decode cX4_home 33 = .ok (.dup, 1) := by decide +kernel
theorem dX4_home_34 : decode cX4_home 34 = .ok (.getfield 219, 3) := by decide +kernel
theorem dX4_home_37 : decode cX4_home 37 = .ok (.iconst 1, 1) := by decide +kernel
theorem dX4_home_38 : decode cX4_home 38 = .ok (.iadd, 1) := by decide +kernel
theorem dX4_home_39 : decode cX4_home 39 = .ok (.putfield 219, 3) := by decide +kernel
theorem dX4_home_42 : decode cX4_home 42 = .ok (.aload_n 0, 1) := by decide +kernel
theorem dX4_home_43 : decode cX4_home 43 = .ok (.iload_n 1, 1) := by decide +kernel
theorem dX4_home_44 : decode cX4_home 44 = .ok (.invokevirtual 222, 3) := by decide +kernel
theorem dX4_home_47 : decode cX4_home 47 = .ok (.ireturn, 1) := by decide +kernel
theorem dX4_oddsOf_0 : decode cX4_oddsOf 0 = .ok (.iconst 0, 1) := by decide +kernel
theorem dX4_oddsOf_1 : decode cX4_oddsOf 1 = .ok (.istore 5, 2) := by decide +kernel
theorem dX4_oddsOf_3 : decode cX4_oddsOf 3 = .ok (.iload 5, 2) := by decide +kernel
theorem dX4_oddsOf_5 : decode cX4_oddsOf 5 = .ok (.aload_n 0, 1) := by decide +kernel
theorem dX4_oddsOf_6 : decode cX4_oddsOf 6 = .ok (.getfield 86, 3) := by decide +kernel
theorem dX4_oddsOf_9 : decode cX4_oddsOf 9 = .ok (.if_icmp .ge 31, 3) := by decide +kernel
theorem dX4_oddsOf_12 : decode cX4_oddsOf 12 = .ok (.aload_n 0, 1) := by decide +kernel
theorem dX4_oddsOf_13 : decode cX4_oddsOf 13 = .ok (.getfield 34, 3) := by decide +kernel
theorem dX4_oddsOf_16 : decode cX4_oddsOf 16 = .ok (.iload 5, 2) := by decide +kernel
theorem dX4_oddsOf_18 : decode cX4_oddsOf 18 = .ok (.iload 5, 2) := by decide +kernel
theorem dX4_oddsOf_20 : decode cX4_oddsOf 20 = .ok (.aload_n 0, 1) := by decide +kernel
theorem dX4_oddsOf_21 : decode cX4_oddsOf 21 = .ok (.iload_n 1, 1) := by decide +kernel
theorem dX4_oddsOf_22 : decode cX4_oddsOf 22 = .ok (.invokevirtual 203, 3) := by decide +kernel
theorem dX4_oddsOf_25 : decode cX4_oddsOf 25 = .ok (.if_icmp .ne 7, 3) := by decide +kernel
theorem dX4_oddsOf_28 : decode cX4_oddsOf 28 = .ok (.iconst 1, 1) := by decide +kernel
theorem dX4_oddsOf_29 : decode cX4_oddsOf 29 = .ok (.goto 4, 3) := by decide +kernel
theorem dX4_oddsOf_32 : decode cX4_oddsOf 32 = .ok (.iconst 0, 1) := by decide +kernel
theorem dX4_oddsOf_33 : decode cX4_oddsOf 33 = .ok (.iastore, 1) := by decide +kernel
theorem dX4_oddsOf_34 : decode cX4_oddsOf 34 = .ok (.iinc 5 1, 3) := by decide +kernel
theorem dX4_oddsOf_37 : decode cX4_oddsOf 37 = .ok (.goto (-34), 3) := by decide +kernel
theorem dX4_oddsOf_40 : decode cX4_oddsOf 40 = .ok (.iconst 0, 1) := by decide +kernel
theorem dX4_oddsOf_41 : decode cX4_oddsOf 41 = .ok (.istore 5, 2) := by decide +kernel
theorem dX4_oddsOf_43 : decode cX4_oddsOf 43 = .ok (.iload 5, 2) := by decide +kernel
theorem dX4_oddsOf_45 : decode cX4_oddsOf 45 = .ok (.iload_n 3, 1) := by decide +kernel
theorem dX4_oddsOf_46 : decode cX4_oddsOf 46 = .ok (.if_icmp .ge 107, 3) := by decide +kernel
theorem dX4_oddsOf_49 : decode cX4_oddsOf 49 = .ok (.iconst 0, 1) := by decide +kernel
theorem dX4_oddsOf_50 : decode cX4_oddsOf 50 = .ok (.istore 6, 2) := by decide +kernel
theorem dX4_oddsOf_52 : decode cX4_oddsOf 52 = .ok (.iload 6, 2) := by decide +kernel
theorem dX4_oddsOf_54 : decode cX4_oddsOf 54 = .ok (.aload_n 0, 1) := by decide +kernel
theorem dX4_oddsOf_55 : decode cX4_oddsOf 55 = .ok (.getfield 86, 3) := by decide +kernel
theorem dX4_oddsOf_58 : decode cX4_oddsOf 58 = .ok (.if_icmp .ge 17, 3) := by decide +kernel
theorem dX4_oddsOf_61 : decode cX4_oddsOf 61 = .ok (.aload_n 0, 1) := by decide +kernel
theorem dX4_oddsOf_62 : decode cX4_oddsOf 62 = .ok (.getfield 37, 3) := by decide +kernel
theorem dX4_oddsOf_65 : decode cX4_oddsOf 65 = .ok (.iload 6, 2) := by decide +kernel
theorem dX4_oddsOf_67 : decode cX4_oddsOf 67 = .ok (.iconst 0, 1) := by decide +kernel
theorem dX4_oddsOf_68 : decode cX4_oddsOf 68 = .ok (.iastore, 1) := by decide +kernel
theorem dX4_oddsOf_69 : decode cX4_oddsOf 69 = .ok (.iinc 6 1, 3) := by decide +kernel
theorem dX4_oddsOf_72 : decode cX4_oddsOf 72 = .ok (.goto (-20), 3) := by decide +kernel
theorem dX4_oddsOf_75 : decode cX4_oddsOf 75 = .ok (.iconst 0, 1) := by decide +kernel
theorem dX4_oddsOf_76 : decode cX4_oddsOf 76 = .ok (.istore 6, 2) := by decide +kernel
theorem dX4_oddsOf_78 : decode cX4_oddsOf 78 = .ok (.iload 6, 2) := by decide +kernel
theorem dX4_oddsOf_80 : decode cX4_oddsOf 80 = .ok (.aload_n 0, 1) := by decide +kernel
theorem dX4_oddsOf_81 : decode cX4_oddsOf 81 = .ok (.getfield 86, 3) := by decide +kernel
theorem dX4_oddsOf_84 : decode cX4_oddsOf 84 = .ok (.aload_n 0, 1) := by decide +kernel
theorem dX4_oddsOf_85 : decode cX4_oddsOf 85 = .ok (.getfield 89, 3) := by decide +kernel
theorem dX4_oddsOf_88 : decode cX4_oddsOf 88 = .ok (.imul, 1) := by decide +kernel
theorem dX4_oddsOf_89 : decode cX4_oddsOf 89 = .ok (.if_icmp .ge 47, 3) := by decide +kernel
theorem dX4_oddsOf_92 : decode cX4_oddsOf 92 = .ok (.aload_n 0, 1) := by decide +kernel
theorem dX4_oddsOf_93 : decode cX4_oddsOf 93 = .ok (.getfield 37, 3) := by decide +kernel
theorem dX4_oddsOf_96 : decode cX4_oddsOf 96 = .ok (.aload_n 0, 1) := by decide +kernel
theorem dX4_oddsOf_97 : decode cX4_oddsOf 97 = .ok (.iload 6, 2) := by decide +kernel
theorem dX4_oddsOf_99 : decode cX4_oddsOf 99 = .ok (.aload_n 0, 1) := by decide +kernel
theorem dX4_oddsOf_100 : decode cX4_oddsOf 100 = .ok (.getfield 89, 3) := by decide +kernel
theorem dX4_oddsOf_103 : decode cX4_oddsOf 103 = .ok (.irem, 1) := by decide +kernel
theorem dX4_oddsOf_104 : decode cX4_oddsOf 104 = .ok (.iload 6, 2) := by decide +kernel
theorem dX4_oddsOf_106 : decode cX4_oddsOf 106 = .ok (.aload_n 0, 1) := by decide +kernel
theorem dX4_oddsOf_107 : decode cX4_oddsOf 107 = .ok (.getfield 89, 3) := by decide +kernel
theorem dX4_oddsOf_110 : decode cX4_oddsOf 110 = .ok (.idiv, 1) := by decide +kernel
theorem dX4_oddsOf_111 : decode cX4_oddsOf 111 = .ok (.invokevirtual 128, 3) := by decide +kernel
theorem dX4_oddsOf_114 : decode cX4_oddsOf 114 = .ok (.dup2, 1) := by decide +kernel
theorem dX4_oddsOf_115 : decode cX4_oddsOf 115 = .ok (.iaload, 1) := by decide +kernel
theorem dX4_oddsOf_116 : decode cX4_oddsOf 116 = .ok (.aload_n 0, 1) := by decide +kernel
theorem dX4_oddsOf_117 : decode cX4_oddsOf 117 = .ok (.getfield 34, 3) := by decide +kernel
theorem dX4_oddsOf_120 : decode cX4_oddsOf 120 = .ok (.iload 6, 2) := by decide +kernel
theorem dX4_oddsOf_122 : decode cX4_oddsOf 122 = .ok (.aload_n 0, 1) := by decide +kernel
theorem dX4_oddsOf_123 : decode cX4_oddsOf 123 = .ok (.getfield 89, 3) := by decide +kernel
theorem dX4_oddsOf_126 : decode cX4_oddsOf 126 = .ok (.idiv, 1) := by decide +kernel
theorem dX4_oddsOf_127 : decode cX4_oddsOf 127 = .ok (.iaload, 1) := by decide +kernel
theorem dX4_oddsOf_128 : decode cX4_oddsOf 128 = .ok (.iadd, 1) := by decide +kernel
theorem dX4_oddsOf_129 : decode cX4_oddsOf 129 = .ok (.iastore, 1) := by decide +kernel
theorem dX4_oddsOf_130 : decode cX4_oddsOf 130 = .ok (.iinc 6 1, 3) := by decide +kernel
theorem dX4_oddsOf_133 : decode cX4_oddsOf 133 = .ok (.goto (-55), 3) := by decide +kernel
theorem dX4_oddsOf_136 : decode cX4_oddsOf 136 = .ok (.aload_n 0, 1) := by decide +kernel
theorem dX4_oddsOf_137 : decode cX4_oddsOf 137 = .ok (.getfield 37, 3) := by decide +kernel
theorem dX4_oddsOf_140 : decode cX4_oddsOf 140 = .ok (.aload_n 0, 1) := by decide +kernel
theorem dX4_oddsOf_141 : decode cX4_oddsOf 141 = .ok (.getfield 34, 3) := by decide +kernel
theorem dX4_oddsOf_144 : decode cX4_oddsOf 144 = .ok (.invokestatic 186, 3) := by decide +kernel
theorem dX4_oddsOf_147 : decode cX4_oddsOf 147 = .ok (.iinc 5 1, 3) := by decide +kernel
theorem dX4_oddsOf_150 : decode cX4_oddsOf 150 = .ok (.goto (-107), 3) := by decide +kernel
theorem dX4_oddsOf_153 : decode cX4_oddsOf 153 = .ok (.aload_n 0, 1) := by decide +kernel
theorem dX4_oddsOf_154 : decode cX4_oddsOf 154 = .ok (.getfield 89, 3) := by decide +kernel
theorem dX4_oddsOf_157 : decode cX4_oddsOf 157 = .ok (.iload_n 3, 1) := by decide +kernel
theorem dX4_oddsOf_158 : decode cX4_oddsOf 158 = .ok (.invokestatic 212, 3) := by decide +kernel
theorem dX4_oddsOf_161 : decode cX4_oddsOf 161 = .ok (.istore 5, 2) := by decide +kernel
theorem dX4_oddsOf_163 : decode cX4_oddsOf 163 = .ok (.iload 5, 2) := by decide +kernel
theorem dX4_oddsOf_165 : decode cX4_oddsOf 165 = .ok (.aload_n 0, 1) := by decide +kernel
theorem dX4_oddsOf_166 : decode cX4_oddsOf 166 = .ok (.getfield 34, 3) := by decide +kernel
theorem dX4_oddsOf_169 : decode cX4_oddsOf 169 = .ok (.iload_n 2, 1) := by decide +kernel
theorem dX4_oddsOf_170 : decode cX4_oddsOf 170 = .ok (.iaload, 1) := by decide +kernel
theorem dX4_oddsOf_171 : decode cX4_oddsOf 171 = .ok (.invokestatic 146, 3) := by decide +kernel
theorem dX4_oddsOf_174 : decode cX4_oddsOf 174 = .ok (.istore 6, 2) := by decide +kernel
theorem dX4_oddsOf_176 : decode cX4_oddsOf 176 = .ok (.iload 4, 2) := by decide +kernel
theorem dX4_oddsOf_178 : decode cX4_oddsOf 178 = .ok (.ifCond .ne 15, 3) := by decide +kernel
theorem dX4_oddsOf_181 : decode cX4_oddsOf 181 = .ok (.aload_n 0, 1) := by decide +kernel
theorem dX4_oddsOf_182 : decode cX4_oddsOf 182 = .ok (.getfield 34, 3) := by decide +kernel
theorem dX4_oddsOf_185 : decode cX4_oddsOf 185 = .ok (.iload_n 2, 1) := by decide +kernel
theorem dX4_oddsOf_186 : decode cX4_oddsOf 186 = .ok (.iaload, 1) := by decide +kernel
theorem dX4_oddsOf_187 : decode cX4_oddsOf 187 = .ok (.iload 6, 2) := by decide +kernel
theorem dX4_oddsOf_189 : decode cX4_oddsOf 189 = .ok (.idiv, 1) := by decide +kernel
theorem dX4_oddsOf_190 : decode cX4_oddsOf 190 = .ok (.goto 8, 3) := by decide +kernel
theorem dX4_oddsOf_193 : decode cX4_oddsOf 193 = .ok (.iload 5, 2) := by decide +kernel
theorem dX4_oddsOf_195 : decode cX4_oddsOf 195 = .ok (.iload 6, 2) := by decide +kernel
theorem dX4_oddsOf_197 : decode cX4_oddsOf 197 = .ok (.idiv, 1) := by decide +kernel
theorem dX4_oddsOf_198 : decode cX4_oddsOf 198 = .ok (.ireturn, 1) := by decide +kernel
theorem dX4_odds_0 : decode cX4_odds 0 = .ok (.aload_n 0, 1) := by decide +kernel
theorem dX4_odds_1 : decode cX4_odds 1 = .ok (.iload_n 1, 1) := by decide +kernel
theorem dX4_odds_2 : decode cX4_odds 2 = .ok (.invokevirtual 125, 3) := by decide +kernel
theorem dX4_odds_5 : decode cX4_odds 5 = .ok (.ifCond .eq 11, 3) := by decide +kernel
theorem dX4_odds_8 : decode cX4_odds 8 = .ok (.aload_n 0, 1) := by decide +kernel
theorem dX4_odds_9 : decode cX4_odds 9 = .ok (.iload_n 2, 1) := by decide +kernel
theorem dX4_odds_10 : decode cX4_odds 10 = .ok (.invokevirtual 125, 3) := by decide +kernel
theorem dX4_odds_13 : decode cX4_odds 13 = .ok (.ifCond .ne 6, 3) := by decide +kernel
theorem dX4_odds_16 : decode cX4_odds 16 = .ok (.bipush (-101), 2) := by decide +kernel
theorem dX4_odds_18 : decode cX4_odds 18 = .ok (.ireturn, 1) := by decide +kernel
theorem dX4_odds_19 : decode cX4_odds 19 = .ok (.iload_n 3, 1) := by decide +kernel
theorem dX4_odds_20 : decode cX4_odds 20 = .ok (.i2l, 1) := by decide +kernel
theorem dX4_odds_21 : decode cX4_odds 21 = .ok (.lconst 1, 1) := by decide +kernel
theorem dX4_odds_22 : decode cX4_odds 22 = .ok (.ldc2_w 225, 3) := by decide +kernel
theorem dX4_odds_25 : decode cX4_odds 25 = .ok (.invokestatic 61, 3) := by decide +kernel
theorem dX4_odds_28 : decode cX4_odds 28 = .ok (.ifCond .eq 26, 3) := by decide +kernel
theorem dX4_odds_31 : decode cX4_odds 31 = .ok (.iload 4, 2) := by decide +kernel
theorem dX4_odds_33 : decode cX4_odds 33 = .ok (.i2l, 1) := by decide +kernel
theorem dX4_odds_34 : decode cX4_odds 34 = .ok (.lconst 0, 1) := by decide +kernel
theorem dX4_odds_35 : decode cX4_odds 35 = .ok (.lconst 1, 1) := by decide +kernel
theorem dX4_odds_36 : decode cX4_odds 36 = .ok (.invokestatic 61, 3) := by decide +kernel
theorem dX4_odds_39 : decode cX4_odds 39 = .ok (.ifCond .eq 15, 3) := by decide +kernel
theorem dX4_odds_42 : decode cX4_odds 42 = .ok (.aload_n 0, 1) := by decide +kernel
theorem dX4_odds_43 : decode cX4_odds 43 = .ok (.iload_n 1, 1) := by decide +kernel
theorem dX4_odds_44 : decode cX4_odds 44 = .ok (.iload_n 2, 1) := by decide +kernel
theorem dX4_odds_45 : decode cX4_odds 45 = .ok (.iload_n 3, 1) := by decide +kernel
theorem dX4_odds_46 : decode cX4_odds 46 = .ok (.iload 4, 2) := by decide +kernel
theorem dX4_odds_48 : decode cX4_odds 48 = .ok (.invokevirtual 227, 3) := by decide +kernel
theorem dX4_odds_51 : decode cX4_odds 51 = .ok (.goto 5, 3) := by decide +kernel
theorem dX4_odds_54 : decode cX4_odds 54 = .ok (.bipush (-102), 2) := by decide +kernel
theorem dX4_odds_56 : decode cX4_odds 56 = .ok (.ireturn, 1) := by decide +kernel
theorem dX4_see_0 : decode cX4_see 0 = .ok (.aload_n 0, 1) := by decide +kernel
theorem dX4_see_1 : decode cX4_see 1 = .ok (.iload_n 1, 1) := by decide +kernel
theorem dX4_see_2 : decode cX4_see 2 = .ok (.invokevirtual 122, 3) := by decide +kernel
theorem dX4_see_5 : decode cX4_see 5 = .ok (.ifCond .eq 19, 3) := by decide +kernel
theorem dX4_see_8 : decode cX4_see 8 = .ok (.aload_n 0, 1) := by decide +kernel
theorem dX4_see_9 : decode cX4_see 9 = .ok (.iload_n 2, 1) := by decide +kernel
theorem dX4_see_10 : decode cX4_see 10 = .ok (.invokevirtual 125, 3) := by decide +kernel
theorem dX4_see_13 : decode cX4_see 13 = .ok (.ifCond .eq 11, 3) := by decide +kernel
theorem dX4_see_16 : decode cX4_see 16 = .ok (.aload_n 0, 1) := by decide +kernel
theorem dX4_see_17 : decode cX4_see 17 = .ok (.iload_n 3, 1) := by decide +kernel
theorem dX4_see_18 : decode cX4_see 18 = .ok (.invokevirtual 125, 3) := by decide +kernel
theorem dX4_see_21 : decode cX4_see 21 = .ok (.ifCond .ne 6, 3) := by decide +kernel
theorem dX4_see_24 : decode cX4_see 24 = .ok (.bipush (-101), 2) := by decide +kernel
theorem dX4_see_26 : decode cX4_see 26 = .ok (.ireturn, 1) := by decide +kernel
theorem dX4_see_27 : decode cX4_see 27 = .ok (.aload_n 0, 1) := by decide +kernel
theorem dX4_see_28 : decode cX4_see 28 = .ok (.getfield 98, 3) := by decide +kernel
theorem dX4_see_31 : decode cX4_see 31 = .ok (.bipush 6, 2) := by decide +kernel
theorem dX4_see_33 : decode cX4_see 33 = .ok (.if_icmp .ne 6, 3) := by decide +kernel
theorem dX4_see_36 : decode cX4_see 36 = .ok (.bipush (-104), 2) := by decide +kernel
theorem dX4_see_38 : decode cX4_see 38 = .ok (.ireturn, 1) := by decide +kernel
theorem dX4_see_39 : decode cX4_see 39 = .ok (.aload_n 0, 1) := by decide +kernel
theorem dX4_see_40 : decode cX4_see 40 = .ok (.getfield 40, 3) := by decide +kernel
theorem dX4_see_43 : decode cX4_see 43 = .ok (.iconst 3, 1) := by decide +kernel
theorem dX4_see_44 : decode cX4_see 44 = .ok (.aload_n 0, 1) := by decide +kernel
theorem dX4_see_45 : decode cX4_see 45 = .ok (.getfield 98, 3) := by decide +kernel
theorem dX4_see_48 : decode cX4_see 48 = .ok (.imul, 1) := by decide +kernel
theorem dX4_see_49 : decode cX4_see 49 = .ok (.iload_n 1, 1) := by decide +kernel
theorem dX4_see_50 : decode cX4_see 50 = .ok (.iastore, 1) := by decide +kernel
theorem dX4_see_51 : decode cX4_see 51 = .ok (.aload_n 0, 1) := by decide +kernel
theorem dX4_see_52 : decode cX4_see 52 = .ok (.getfield 40, 3) := by decide +kernel
theorem dX4_see_55 : decode cX4_see 55 = .ok (.iconst 3, 1) := by decide +kernel
theorem dX4_see_56 : decode cX4_see 56 = .ok (.aload_n 0, 1) := by decide +kernel
theorem dX4_see_57 : decode cX4_see 57 = .ok (.getfield 98, 3) := by decide +kernel
theorem dX4_see_60 : decode cX4_see 60 = .ok (.imul, 1) := by decide +kernel
theorem dX4_see_61 : decode cX4_see 61 = .ok (.iconst 1, 1) := by decide +kernel
theorem dX4_see_62 : decode cX4_see 62 = .ok (.iadd, 1) := by decide +kernel
theorem dX4_see_63 : decode cX4_see 63 = .ok (.iload_n 2, 1) := by decide +kernel
theorem dX4_see_64 : decode cX4_see 64 = .ok (.iastore, 1) := by decide +kernel
theorem dX4_see_65 : decode cX4_see 65 = .ok (.aload_n 0, 1) := by decide +kernel
theorem dX4_see_66 : decode cX4_see 66 = .ok (.getfield 40, 3) := by decide +kernel
theorem dX4_see_69 : decode cX4_see 69 = .ok (.iconst 3, 1) := by decide +kernel
theorem dX4_see_70 : decode cX4_see 70 = .ok (.aload_n 0, 1) := by decide +kernel
theorem dX4_see_71 : decode cX4_see 71 = .ok (.getfield 98, 3) := by decide +kernel
theorem dX4_see_74 : decode cX4_see 74 = .ok (.imul, 1) := by decide +kernel
theorem dX4_see_75 : decode cX4_see 75 = .ok (.iconst 2, 1) := by decide +kernel
theorem dX4_see_76 : decode cX4_see 76 = .ok (.iadd, 1) := by decide +kernel
theorem dX4_see_77 : decode cX4_see 77 = .ok (.iload_n 3, 1) := by decide +kernel
theorem dX4_see_78 : decode cX4_see 78 = .ok (.iastore, 1) := by decide +kernel
theorem dX4_see_79 : decode cX4_see 79 = .ok (.aload_n 0, 1) := by decide +kernel
theorem dX4_see_80 : decode cX4_see 80 = .ok (.dup, 1) := by decide +kernel
theorem dX4_see_81 : decode cX4_see 81 = .ok (.getfield 98, 3) := by decide +kernel
theorem dX4_see_84 : decode cX4_see 84 = .ok (.iconst 1, 1) := by decide +kernel
theorem dX4_see_85 : decode cX4_see 85 = .ok (.iadd, 1) := by decide +kernel
theorem dX4_see_86 : decode cX4_see 86 = .ok (.putfield 98, 3) := by decide +kernel
theorem dX4_see_89 : decode cX4_see 89 = .ok (.aload_n 0, 1) := by decide +kernel
theorem dX4_see_90 : decode cX4_see 90 = .ok (.getfield 98, 3) := by decide +kernel
theorem dX4_see_93 : decode cX4_see 93 = .ok (.ireturn, 1) := by decide +kernel
theorem dX4_forget_0 : decode cX4_forget 0 = .ok (.aload_n 0, 1) := by decide +kernel
theorem dX4_forget_1 : decode cX4_forget 1 = .ok (.getfield 98, 3) := by decide +kernel
theorem dX4_forget_4 : decode cX4_forget 4 = .ok (.istore_n 1, 1) := by decide +kernel
theorem dX4_forget_5 : decode cX4_forget 5 = .ok (.aload_n 0, 1) := by decide +kernel
theorem dX4_forget_6 : decode cX4_forget 6 = .ok (.iconst 0, 1) := by decide +kernel
theorem dX4_forget_7 : decode cX4_forget 7 = .ok (.putfield 98, 3) := by decide +kernel
theorem dX4_forget_10 : decode cX4_forget 10 = .ok (.iload_n 1, 1) := by decide +kernel
theorem dX4_forget_11 : decode cX4_forget 11 = .ok (.ireturn, 1) := by decide +kernel
theorem dX4_numbersOf_0 : decode cX4_numbersOf 0 = .ok (.iconst 0, 1) := by decide +kernel
theorem dX4_numbersOf_1 : decode cX4_numbersOf 1 = .ok (.istore_n 2, 1) := by decide +kernel
theorem dX4_numbersOf_2 : decode cX4_numbersOf 2 = .ok (.iconst 0, 1) := by decide +kernel
theorem dX4_numbersOf_3 : decode cX4_numbersOf 3 = .ok (.istore_n 3, 1) := by decide +kernel
theorem dX4_numbersOf_4 : decode cX4_numbersOf 4 = .ok (.iload_n 3, 1) := by decide +kernel
theorem dX4_numbersOf_5 : decode cX4_numbersOf 5 = .ok (.bipush 10, 2) := by decide +kernel
theorem dX4_numbersOf_7 : decode cX4_numbersOf 7 = .ok (.if_icmp .ge 102, 3) := by decide +kernel
theorem dX4_numbersOf_10 : decode cX4_numbersOf 10 = .ok (.iconst 1, 1) := by decide +kernel
theorem dX4_numbersOf_11 : decode cX4_numbersOf 11 = .ok (.istore 4, 2) := by decide +kernel
theorem dX4_numbersOf_13 : decode cX4_numbersOf 13 = .ok (.iconst 0, 1) := by decide +kernel
theorem dX4_numbersOf_14 : decode cX4_numbersOf 14 = .ok (.istore 5, 2) := by decide +kernel
theorem dX4_numbersOf_16 : decode cX4_numbersOf 16 = .ok (.iload 5, 2) := by decide +kernel
theorem dX4_numbersOf_18 : decode cX4_numbersOf 18 = .ok (.iconst 3, 1) := by decide +kernel
theorem dX4_numbersOf_19 : decode cX4_numbersOf 19 = .ok (.aload_n 0, 1) := by decide +kernel
theorem dX4_numbersOf_20 : decode cX4_numbersOf 20 = .ok (.getfield 98, 3) := by decide +kernel
theorem dX4_numbersOf_23 : decode cX4_numbersOf 23 = .ok (.imul, 1) := by decide +kernel
theorem dX4_numbersOf_24 : decode cX4_numbersOf 24 = .ok (.if_icmp .ge 64, 3) := by decide +kernel
theorem dX4_numbersOf_27 : decode cX4_numbersOf 27 = .ok (.iload 4, 2) := by decide +kernel
theorem dX4_numbersOf_29 : decode cX4_numbersOf 29 = .ok (.ifCond .eq 50, 3) := by decide +kernel
theorem dX4_numbersOf_32 : decode cX4_numbersOf 32 = .ok (.aload_n 0, 1) := by decide +kernel
theorem dX4_numbersOf_33 : decode cX4_numbersOf 33 = .ok (.getfield 40, 3) := by decide +kernel
theorem dX4_numbersOf_36 : decode cX4_numbersOf 36 = .ok (.iload 5, 2) := by decide +kernel
theorem dX4_numbersOf_38 : decode cX4_numbersOf 38 = .ok (.iaload, 1) := by decide +kernel
theorem dX4_numbersOf_39 : decode cX4_numbersOf 39 = .ok (.iload_n 1, 1) := by decide +kernel
theorem dX4_numbersOf_40 : decode cX4_numbersOf 40 = .ok (.if_icmp .ne 35, 3) := by decide +kernel
theorem dX4_numbersOf_43 : decode cX4_numbersOf 43 = .ok (.aload_n 0, 1) := by decide +kernel
theorem dX4_numbersOf_44 : decode cX4_numbersOf 44 = .ok (.aload_n 0, 1) := by decide +kernel
theorem dX4_numbersOf_45 : decode cX4_numbersOf 45 = .ok (.getfield 13, 3) := by decide +kernel
theorem dX4_numbersOf_48 : decode cX4_numbersOf 48 = .ok (.iload_n 1, 1) := by decide +kernel
theorem dX4_numbersOf_49 : decode cX4_numbersOf 49 = .ok (.iaload, 1) := by decide +kernel
theorem dX4_numbersOf_50 : decode cX4_numbersOf 50 = .ok (.iload_n 3, 1) := by decide +kernel
theorem dX4_numbersOf_51 : decode cX4_numbersOf 51 = .ok (.aload_n 0, 1) := by decide +kernel
theorem dX4_numbersOf_52 : decode cX4_numbersOf 52 = .ok (.getfield 40, 3) := by decide +kernel
theorem dX4_numbersOf_55 : decode cX4_numbersOf 55 = .ok (.iload 5, 2) := by decide +kernel
theorem dX4_numbersOf_57 : decode cX4_numbersOf 57 = .ok (.iconst 1, 1) := by decide +kernel
theorem dX4_numbersOf_58 : decode cX4_numbersOf 58 = .ok (.iadd, 1) := by decide +kernel
theorem dX4_numbersOf_59 : decode cX4_numbersOf 59 = .ok (.iaload, 1) := by decide +kernel
theorem dX4_numbersOf_60 : decode cX4_numbersOf 60 = .ok (.invokevirtual 118, 3) := by decide +kernel
theorem dX4_numbersOf_63 : decode cX4_numbersOf 63 = .ok (.aload_n 0, 1) := by decide +kernel
theorem dX4_numbersOf_64 : decode cX4_numbersOf 64 = .ok (.getfield 40, 3) := by decide +kernel
theorem dX4_numbersOf_67 : decode cX4_numbersOf 67 = .ok (.iload 5, 2) := by decide +kernel
theorem dX4_numbersOf_69 : decode cX4_numbersOf 69 = .ok (.iconst 2, 1) := by decide +kernel
theorem dX4_numbersOf_70 : decode cX4_numbersOf 70 = .ok (.iadd, 1) := by decide +kernel
theorem dX4_numbersOf_71 : decode cX4_numbersOf 71 = .ok (.iaload, 1) := by decide +kernel
theorem dX4_numbersOf_72 : decode cX4_numbersOf 72 = .ok (.if_icmp .ne 7, 3) := by decide +kernel
theorem dX4_numbersOf_75 : decode cX4_numbersOf 75 = .ok (.iconst 1, 1) := by decide +kernel
theorem dX4_numbersOf_76 : decode cX4_numbersOf 76 = .ok (.goto 4, 3) := by decide +kernel
theorem dX4_numbersOf_79 : decode cX4_numbersOf 79 = .ok (.iconst 0, 1) := by decide +kernel
theorem dX4_numbersOf_80 : decode cX4_numbersOf 80 = .ok (.istore 4, 2) := by decide +kernel
theorem dX4_numbersOf_82 : decode cX4_numbersOf 82 = .ok (.iinc 5 3, 3) := by decide +kernel
theorem dX4_numbersOf_85 : decode cX4_numbersOf 85 = .ok (.goto (-69), 3) := by decide +kernel
theorem dX4_numbersOf_88 : decode cX4_numbersOf 88 = .ok (.iload_n 2, 1) := by decide +kernel
theorem dX4_numbersOf_89 : decode cX4_numbersOf 89 = .ok (.iload 4, 2) := by decide +kernel
theorem dX4_numbersOf_91 : decode cX4_numbersOf 91 = .ok (.ifCond .eq 9, 3) := by decide +kernel
theorem dX4_numbersOf_94 : decode cX4_numbersOf 94 = .ok (.iconst 1, 1) := by decide +kernel
theorem dX4_numbersOf_95 : decode cX4_numbersOf 95 = .ok (.iload_n 3, 1) := by decide +kernel
theorem dX4_numbersOf_96 : decode cX4_numbersOf 96 = .ok (.ishl, 1) := by decide +kernel
theorem dX4_numbersOf_97 : decode cX4_numbersOf 97 = .ok (.goto 4, 3) := by decide +kernel
theorem dX4_numbersOf_100 : decode cX4_numbersOf 100 = .ok (.iconst 0, 1) := by decide +kernel
theorem dX4_numbersOf_101 : decode cX4_numbersOf 101 = .ok (.ior, 1) := by decide +kernel
theorem dX4_numbersOf_102 : decode cX4_numbersOf 102 = .ok (.istore_n 2, 1) := by decide +kernel
theorem dX4_numbersOf_103 : decode cX4_numbersOf 103 = .ok (.iinc 3 1, 3) := by decide +kernel
theorem dX4_numbersOf_106 : decode cX4_numbersOf 106 = .ok (.goto (-102), 3) := by decide +kernel
theorem dX4_numbersOf_109 : decode cX4_numbersOf 109 = .ok (.iload_n 2, 1) := by decide +kernel
theorem dX4_numbersOf_110 : decode cX4_numbersOf 110 = .ok (.ireturn, 1) := by decide +kernel
theorem dX4_watchOf_0 : decode cX4_watchOf 0 = .ok (.aload_n 0, 1) := by decide +kernel
theorem dX4_watchOf_1 : decode cX4_watchOf 1 = .ok (.iload_n 1, 1) := by decide +kernel
theorem dX4_watchOf_2 : decode cX4_watchOf 2 = .ok (.invokevirtual 175, 3) := by decide +kernel
theorem dX4_watchOf_5 : decode cX4_watchOf 5 = .ok (.istore_n 2, 1) := by decide +kernel
theorem dX4_watchOf_6 : decode cX4_watchOf 6 = .ok (.iconst (-1), 1) := by decide +kernel
theorem dX4_watchOf_7 : decode cX4_watchOf 7 = .ok (.istore_n 3, 1) := by decide +kernel
theorem dX4_watchOf_8 : decode cX4_watchOf 8 = .ok (.bipush 11, 2) := by decide +kernel
theorem dX4_watchOf_10 : decode cX4_watchOf 10 = .ok (.istore 4, 2) := by decide +kernel
theorem dX4_watchOf_12 : decode cX4_watchOf 12 = .ok (.iconst 0, 1) := by decide +kernel
theorem dX4_watchOf_13 : decode cX4_watchOf 13 = .ok (.istore 5, 2) := by decide +kernel
theorem dX4_watchOf_15 : decode cX4_watchOf 15 = .ok (.iload 5, 2) := by decide +kernel
theorem dX4_watchOf_17 : decode cX4_watchOf 17 = .ok (.aload_n 0, 1) := by decide +kernel
theorem dX4_watchOf_18 : decode cX4_watchOf 18 = .ok (.getfield 86, 3) := by decide +kernel
theorem dX4_watchOf_21 : decode cX4_watchOf 21 = .ok (.if_icmp .ge 133, 3) := by decide +kernel
theorem dX4_watchOf_24 : decode cX4_watchOf 24 = .ok (.iload_n 2, 1) := by decide +kernel
theorem dX4_watchOf_25 : decode cX4_watchOf 25 = .ok (.ifCond .eq 129, 3) := by decide +kernel
theorem dX4_watchOf_28 : decode cX4_watchOf 28 = .ok (.iconst 0, 1) := by decide +kernel
theorem dX4_watchOf_29 : decode cX4_watchOf 29 = .ok (.istore 6, 2) := by decide +kernel
theorem dX4_watchOf_31 : decode cX4_watchOf 31 = .ok (.iconst 0, 1) := by decide +kernel
theorem dX4_watchOf_32 : decode cX4_watchOf 32 = .ok (.istore 7, 2) := by decide +kernel
theorem dX4_watchOf_34 : decode cX4_watchOf 34 = .ok (.iload 7, 2) := by decide +kernel
theorem dX4_watchOf_36 : decode cX4_watchOf 36 = .ok (.aload_n 0, 1) := by decide +kernel
theorem dX4_watchOf_37 : decode cX4_watchOf 37 = .ok (.getfield 86, 3) := by decide +kernel
theorem dX4_watchOf_40 : decode cX4_watchOf 40 = .ok (.if_icmp .ge 78, 3) := by decide +kernel
theorem dX4_watchOf_43 : decode cX4_watchOf 43 = .ok (.iconst 0, 1) := by decide +kernel
theorem dX4_watchOf_44 : decode cX4_watchOf 44 = .ok (.istore 8, 2) := by decide +kernel
theorem dX4_watchOf_46 : decode cX4_watchOf 46 = .ok (.iconst 0, 1) := by decide +kernel
theorem dX4_watchOf_47 : decode cX4_watchOf 47 = .ok (.istore 9, 2) := by decide +kernel
theorem dX4_watchOf_49 : decode cX4_watchOf 49 = .ok (.iload 9, 2) := by decide +kernel
theorem dX4_watchOf_51 : decode cX4_watchOf 51 = .ok (.bipush 10, 2) := by decide +kernel
theorem dX4_watchOf_53 : decode cX4_watchOf 53 = .ok (.if_icmp .ge 43, 3) := by decide +kernel
theorem dX4_watchOf_56 : decode cX4_watchOf 56 = .ok (.iload 8, 2) := by decide +kernel
theorem dX4_watchOf_58 : decode cX4_watchOf 58 = .ok (.aload_n 0, 1) := by decide +kernel
theorem dX4_watchOf_59 : decode cX4_watchOf 59 = .ok (.aload_n 0, 1) := by decide +kernel
theorem dX4_watchOf_60 : decode cX4_watchOf 60 = .ok (.getfield 13, 3) := by decide +kernel
theorem dX4_watchOf_63 : decode cX4_watchOf 63 = .ok (.iload_n 1, 1) := by decide +kernel
theorem dX4_watchOf_64 : decode cX4_watchOf 64 = .ok (.iaload, 1) := by decide +kernel
theorem dX4_watchOf_65 : decode cX4_watchOf 65 = .ok (.iload 9, 2) := by decide +kernel
theorem dX4_watchOf_67 : decode cX4_watchOf 67 = .ok (.iload 5, 2) := by decide +kernel
theorem dX4_watchOf_69 : decode cX4_watchOf 69 = .ok (.invokevirtual 118, 3) := by decide +kernel
theorem dX4_watchOf_72 : decode cX4_watchOf 72 = .ok (.iload 7, 2) := by decide +kernel
theorem dX4_watchOf_74 : decode cX4_watchOf 74 = .ok (.if_icmp .ne 12, 3) := by decide +kernel
theorem dX4_watchOf_77 : decode cX4_watchOf 77 = .ok (.iload_n 2, 1) := by decide +kernel
theorem dX4_watchOf_78 : decode cX4_watchOf 78 = .ok (.iload 9, 2) := by decide +kernel
theorem dX4_watchOf_80 : decode cX4_watchOf 80 = .ok (.ishr, 1) := by decide +kernel
theorem dX4_watchOf_81 : decode cX4_watchOf 81 = .ok (.iconst 1, 1) := by decide +kernel
theorem dX4_watchOf_82 : decode cX4_watchOf 82 = .ok (.iand, 1) := by decide +kernel
theorem dX4_watchOf_83 : decode cX4_watchOf 83 = .ok (.goto 4, 3) := by decide +kernel
theorem dX4_watchOf_86 : decode cX4_watchOf 86 = .ok (.iconst 0, 1) := by decide +kernel
theorem dX4_watchOf_87 : decode cX4_watchOf 87 = .ok (.iadd, 1) := by decide +kernel
theorem dX4_watchOf_88 : decode cX4_watchOf 88 = .ok (.istore 8, 2) := by decide +kernel
theorem dX4_watchOf_90 : decode cX4_watchOf 90 = .ok (.iinc 9 1, 3) := by decide +kernel
theorem dX4_watchOf_93 : decode cX4_watchOf 93 = .ok (.goto (-44), 3) := by decide +kernel
theorem dX4_watchOf_96 : decode cX4_watchOf 96 = .ok (.iload 8, 2) := by decide +kernel
theorem dX4_watchOf_98 : decode cX4_watchOf 98 = .ok (.iload 6, 2) := by decide +kernel
theorem dX4_watchOf_100 : decode cX4_watchOf 100 = .ok (.if_icmp .le 8, 3) := by decide +kernel
theorem dX4_watchOf_103 : decode cX4_watchOf 103 = .ok (.iload 8, 2) := by decide +kernel
theorem dX4_watchOf_105 : decode cX4_watchOf 105 = .ok (.goto 5, 3) := by decide +kernel
theorem dX4_watchOf_108 : decode cX4_watchOf 108 = .ok (.iload 6, 2) := by decide +kernel
theorem dX4_watchOf_110 : decode cX4_watchOf 110 = .ok (.istore 6, 2) := by decide +kernel
theorem dX4_watchOf_112 : decode cX4_watchOf 112 = .ok (.iinc 7 1, 3) := by decide +kernel
theorem dX4_watchOf_115 : decode cX4_watchOf 115 = .ok (.goto (-81), 3) := by decide +kernel
theorem dX4_watchOf_118 : decode cX4_watchOf 118 = .ok (.iload 6, 2) := by decide +kernel
theorem dX4_watchOf_120 : decode cX4_watchOf 120 = .ok (.iload 4, 2) := by decide +kernel
theorem dX4_watchOf_122 : decode cX4_watchOf 122 = .ok (.if_icmp .ge 8, 3) := by decide +kernel
theorem dX4_watchOf_125 : decode cX4_watchOf 125 = .ok (.iload 5, 2) := by decide +kernel
theorem dX4_watchOf_127 : decode cX4_watchOf 127 = .ok (.goto 4, 3) := by decide +kernel
theorem dX4_watchOf_130 : decode cX4_watchOf 130 = .ok (.iload_n 3, 1) := by decide +kernel
theorem dX4_watchOf_131 : decode cX4_watchOf 131 = .ok (.istore_n 3, 1) := by decide +kernel
theorem dX4_watchOf_132 : decode cX4_watchOf 132 = .ok (.iload 6, 2) := by decide +kernel
theorem dX4_watchOf_134 : decode cX4_watchOf 134 = .ok (.iload 4, 2) := by decide +kernel
theorem dX4_watchOf_136 : decode cX4_watchOf 136 = .ok (.if_icmp .ge 8, 3) := by decide +kernel
theorem dX4_watchOf_139 : decode cX4_watchOf 139 = .ok (.iload 6, 2) := by decide +kernel
theorem dX4_watchOf_141 : decode cX4_watchOf 141 = .ok (.goto 5, 3) := by decide +kernel
theorem dX4_watchOf_144 : decode cX4_watchOf 144 = .ok (.iload 4, 2) := by decide +kernel
theorem dX4_watchOf_146 : decode cX4_watchOf 146 = .ok (.istore 4, 2) := by decide +kernel
theorem dX4_watchOf_148 : decode cX4_watchOf 148 = .ok (.iinc 5 1, 3) := by decide +kernel
theorem dX4_watchOf_151 : decode cX4_watchOf 151 = .ok (.goto (-136), 3) := by decide +kernel
theorem dX4_watchOf_154 : decode cX4_watchOf 154 = .ok (.iload_n 3, 1) := by decide +kernel
theorem dX4_watchOf_155 : decode cX4_watchOf 155 = .ok (.ireturn, 1) := by decide +kernel
theorem dX4_draw_0 : decode cX4_draw 0 = .ok (.aload_n 0, 1) := by decide +kernel
theorem dX4_draw_1 : decode cX4_draw 1 = .ok (.ldc2_w 231, 3) := by decide +kernel
theorem dX4_draw_4 : decode cX4_draw 4 = .ok (.aload_n 0, 1) := by decide +kernel
theorem dX4_draw_5 : decode cX4_draw 5 = .ok (.getfield 233, 3) := by decide +kernel
theorem dX4_draw_8 : decode cX4_draw 8 = .ok (.i2l, 1) := by decide +kernel
theorem dX4_draw_9 : decode cX4_draw 9 = .ok (.lmul, 1) := by decide +kernel
theorem dX4_draw_10 : decode cX4_draw 10 = .ok (.ldc2_w 236, 3) := by decide +kernel
theorem dX4_draw_13 : decode cX4_draw 13 = .ok (.ladd, 1) := by decide +kernel
theorem dX4_draw_14 : decode cX4_draw 14 = .ok (.ldc2_w 238, 3) := by decide +kernel
theorem dX4_draw_17 : decode cX4_draw 17 = .ok (.land, 1) := by decide +kernel
theorem dX4_draw_18 : decode cX4_draw 18 = .ok (.l2i, 1) := by decide +kernel
theorem dX4_draw_19 : decode cX4_draw 19 = .ok (.putfield 233, 3) := by decide +kernel
theorem dX4_draw_22 : decode cX4_draw 22 = .ok (.aload_n 0, 1) := by decide +kernel
theorem dX4_draw_23 : decode cX4_draw 23 = .ok (.getfield 233, 3) := by decide +kernel
theorem dX4_draw_26 : decode cX4_draw 26 = .ok (.ldc 240, 2) := by decide +kernel
theorem dX4_draw_28 : decode cX4_draw 28 = .ok (.idiv, 1) := by decide +kernel
theorem dX4_draw_29 : decode cX4_draw 29 = .ok (.iload_n 1, 1) := by decide +kernel
theorem dX4_draw_30 : decode cX4_draw 30 = .ok (.irem, 1) := by decide +kernel
theorem dX4_draw_31 : decode cX4_draw 31 = .ok (.ireturn, 1) := by decide +kernel
theorem dX4_runs_0 : decode cX4_runs 0 = .ok (.iload_n 1, 1) := by decide +kernel
theorem dX4_runs_1 : decode cX4_runs 1 = .ok (.i2l, 1) := by decide +kernel
theorem dX4_runs_2 : decode cX4_runs 2 = .ok (.lconst 1, 1) := by decide +kernel
theorem dX4_runs_3 : decode cX4_runs 3 = .ok (.ldc2_w 241, 3) := by decide +kernel
theorem dX4_runs_6 : decode cX4_runs 6 = .ok (.invokestatic 61, 3) := by decide +kernel
theorem dX4_runs_9 : decode cX4_runs 9 = .ok (.ifCond .eq 19, 3) := by decide +kernel
theorem dX4_runs_12 : decode cX4_runs 12 = .ok (.iload_n 2, 1) := by decide +kernel
theorem dX4_runs_13 : decode cX4_runs 13 = .ok (.ifCond .lt 15, 3) := by decide +kernel
theorem dX4_runs_16 : decode cX4_runs 16 = .ok (.iload_n 3, 1) := by decide +kernel
theorem dX4_runs_17 : decode cX4_runs 17 = .ok (.i2l, 1) := by decide +kernel
theorem dX4_runs_18 : decode cX4_runs 18 = .ok (.lconst 0, 1) := by decide +kernel
theorem dX4_runs_19 : decode cX4_runs 19 = .ok (.ldc2_w 243, 3) := by decide +kernel
theorem dX4_runs_22 : decode cX4_runs 22 = .ok (.invokestatic 61, 3) := by decide +kernel
theorem dX4_runs_25 : decode cX4_runs 25 = .ok (.ifCond .ne 6, 3) := by decide +kernel
theorem dX4_runs_28 : decode cX4_runs 28 = .ok (.bipush (-102), 2) := by decide +kernel
theorem dX4_runs_30 : decode cX4_runs 30 = .ok (.ireturn, 1) := by decide +kernel
theorem dX4_runs_31 : decode cX4_runs 31 = .ok (.aload_n 0, 1) := by decide +kernel
theorem dX4_runs_32 : decode cX4_runs 32 = .ok (.invokevirtual 160, 3) := by decide +kernel
theorem dX4_runs_35 : decode cX4_runs 35 = .ok (.ifCond .eq 6, 3) := by decide +kernel
theorem dX4_runs_38 : decode cX4_runs 38 = .ok (.bipush (-103), 2) := by decide +kernel
theorem dX4_runs_40 : decode cX4_runs 40 = .ok (.ireturn, 1) := by decide +kernel
theorem dX4_runs_41 : decode cX4_runs 41 = .ok (.aload_n 0, 1) := by decide +kernel
theorem dX4_runs_42 : decode cX4_runs 42 = .ok (.iload_n 2, 1) := by decide +kernel
theorem dX4_runs_43 : decode cX4_runs 43 = .ok (.putfield 233, 3) := by decide +kernel
theorem dX4_runs_46 : decode cX4_runs 46 = .ok (.aload_n 0, 1) := by decide +kernel
theorem dX4_runs_47 : decode cX4_runs 47 = .ok (.getfield 19, 3) := by decide +kernel
theorem dX4_runs_50 : decode cX4_runs 50 = .ok (.aload_n 0, 1) := by decide +kernel
theorem dX4_runs_51 : decode cX4_runs 51 = .ok (.getfield 25, 3) := by decide +kernel
theorem dX4_runs_54 : decode cX4_runs 54 = .ok (.invokestatic 186, 3) := by decide +kernel
theorem dX4_runs_57 : decode cX4_runs 57 = .ok (.iconst 0, 1) := by decide +kernel
theorem dX4_runs_58 : decode cX4_runs 58 = .ok (.istore 4, 2) := by decide +kernel
theorem dX4_runs_60 : decode cX4_runs 60 = .ok (.iload 4, 2) := by decide +kernel
theorem dX4_runs_62 : decode cX4_runs 62 = .ok (.iload_n 1, 1) := by decide +kernel
theorem dX4_runs_63 : decode cX4_runs 63 = .ok (.if_icmp .ge 21, 3) := by decide +kernel
theorem dX4_runs_66 : decode cX4_runs 66 = .ok (.aload_n 0, 1) := by decide +kernel
theorem dX4_runs_67 : decode cX4_runs 67 = .ok (.aload_n 0, 1) := by decide +kernel
theorem dX4_runs_68 : decode cX4_runs 68 = .ok (.aload_n 0, 1) := by decide +kernel
theorem dX4_runs_69 : decode cX4_runs 69 = .ok (.getfield 89, 3) := by decide +kernel
theorem dX4_runs_72 : decode cX4_runs 72 = .ok (.invokevirtual 245, 3) := by decide +kernel
theorem dX4_runs_75 : decode cX4_runs 75 = .ok (.invokevirtual 190, 3) := by decide +kernel
theorem dX4_runs_78 : decode cX4_runs 78 = .ok (.iinc 4 1, 3) := by decide +kernel
theorem dX4_runs_81 : decode cX4_runs 81 = .ok (.goto (-21), 3) := by decide +kernel
theorem dX4_runs_84 : decode cX4_runs 84 = .ok (.iload_n 3, 1) := by decide +kernel
theorem dX4_runs_85 : decode cX4_runs 85 = .ok (.ifCond .ne 14, 3) := by decide +kernel
theorem dX4_runs_88 : decode cX4_runs 88 = .ok (.aload_n 0, 1) := by decide +kernel
theorem dX4_runs_89 : decode cX4_runs 89 = .ok (.aload_n 0, 1) := by decide +kernel
theorem dX4_runs_90 : decode cX4_runs 90 = .ok (.getfield 25, 3) := by decide +kernel
theorem dX4_runs_93 : decode cX4_runs 93 = .ok (.invokevirtual 194, 3) := by decide +kernel
theorem dX4_runs_96 : decode cX4_runs 96 = .ok (.goto 21, 3) := by decide +kernel
theorem dX4_runs_99 : decode cX4_runs 99 = .ok (.iload_n 3, 1) := by decide +kernel
theorem dX4_runs_100 : decode cX4_runs 100 = .ok (.iconst 1, 1) := by decide +kernel
theorem dX4_runs_101 : decode cX4_runs 101 = .ok (.if_icmp .ne 12, 3) := by decide +kernel
theorem dX4_runs_104 : decode cX4_runs 104 = .ok (.aload_n 0, 1) := by decide +kernel
theorem dX4_runs_105 : decode cX4_runs 105 = .ok (.getfield 25, 3) := by decide +kernel
theorem dX4_runs_108 : decode cX4_runs 108 = .ok (.iconst 0, 1) := by decide +kernel
theorem dX4_runs_109 : decode cX4_runs 109 = .ok (.iaload, 1) := by decide +kernel
theorem dX4_runs_110 : decode cX4_runs 110 = .ok (.goto 7, 3) := by decide +kernel
theorem dX4_runs_113 : decode cX4_runs 113 = .ok (.aload_n 0, 1) := by decide +kernel
theorem dX4_runs_114 : decode cX4_runs 114 = .ok (.getfield 233, 3) := by decide +kernel
theorem dX4_runs_117 : decode cX4_runs 117 = .ok (.ireturn, 1) := by decide +kernel
theorem dX4_image_0 : decode cX4_image 0 = .ok (.aload_n 0, 1) := by decide +kernel
theorem dX4_image_1 : decode cX4_image 1 = .ok (.invokevirtual 160, 3) := by decide +kernel
theorem dX4_image_4 : decode cX4_image 4 = .ok (.ifCond .eq 6, 3) := by decide +kernel
theorem dX4_image_7 : decode cX4_image 7 = .ok (.bipush (-103), 2) := by decide +kernel
theorem dX4_image_9 : decode cX4_image 9 = .ok (.ireturn, 1) := by decide +kernel
theorem dX4_image_10 : decode cX4_image 10 = .ok (.aload_n 0, 1) := by decide +kernel
theorem dX4_image_11 : decode cX4_image 11 = .ok (.getfield 13, 3) := by decide +kernel
theorem dX4_image_14 : decode cX4_image 14 = .ok (.aload_n 0, 1) := by decide +kernel
theorem dX4_image_15 : decode cX4_image 15 = .ok (.getfield 43, 3) := by decide +kernel
theorem dX4_image_18 : decode cX4_image 18 = .ok (.invokestatic 186, 3) := by decide +kernel
theorem dX4_image_21 : decode cX4_image 21 = .ok (.aload_n 0, 1) := by decide +kernel
theorem dX4_image_22 : decode cX4_image 22 = .ok (.getfield 16, 3) := by decide +kernel
theorem dX4_image_25 : decode cX4_image 25 = .ok (.aload_n 0, 1) := by decide +kernel
theorem dX4_image_26 : decode cX4_image 26 = .ok (.getfield 46, 3) := by decide +kernel
theorem dX4_image_29 : decode cX4_image 29 = .ok (.invokestatic 186, 3) := by decide +kernel
theorem dX4_image_32 : decode cX4_image 32 = .ok (.aload_n 0, 1) := by decide +kernel
