theorem dX2_ringLength_0 : decode cX2_ringLength 0 = .ok (.iconst 1, 1) := by decide +kernel
theorem dX2_ringLength_1 : decode cX2_ringLength 1 = .ok (.istore_n 2, 1) := by decide +kernel
theorem dX2_ringLength_2 : decode cX2_ringLength 2 = .ok (.aload_n 0, 1) := by decide +kernel
theorem dX2_ringLength_3 : decode cX2_ringLength 3 = .ok (.getfield 9, 3) := by decide +kernel
theorem dX2_ringLength_6 : decode cX2_ringLength 6 = .ok (.iload_n 1, 1) := by decide +kernel
theorem dX2_ringLength_7 : decode cX2_ringLength 7 = .ok (.iaload, 1) := by decide +kernel
theorem dX2_ringLength_8 : decode cX2_ringLength 8 = .ok (.istore_n 3, 1) := by decide +kernel
theorem dX2_ringLength_9 : decode cX2_ringLength 9 = .ok (.iload_n 3, 1) := by decide +kernel
theorem dX2_ringLength_10 : decode cX2_ringLength 10 = .ok (.iload_n 1, 1) := by decide +kernel
theorem dX2_ringLength_11 : decode cX2_ringLength 11 = .ok (.if_icmp .eq 24, 3) := by decide +kernel
theorem dX2_ringLength_14 : decode cX2_ringLength 14 = .ok (.iload_n 2, 1) := by decide +kernel
theorem dX2_ringLength_15 : decode cX2_ringLength 15 = .ok (.aload_n 0, 1) := by decide +kernel
theorem dX2_ringLength_16 : decode cX2_ringLength 16 = .ok (.getfield 15, 3) := by decide +kernel
theorem dX2_ringLength_19 : decode cX2_ringLength 19 = .ok (.if_icmp .ge 16, 3) := by decide +kernel
theorem dX2_ringLength_22 : decode cX2_ringLength 22 = .ok (.aload_n 0, 1) := by decide +kernel
theorem dX2_ringLength_23 : decode cX2_ringLength 23 = .ok (.getfield 9, 3) := by decide +kernel
theorem dX2_ringLength_26 : decode cX2_ringLength 26 = .ok (.iload_n 3, 1) := by decide +kernel
theorem dX2_ringLength_27 : decode cX2_ringLength 27 = .ok (.iaload, 1) := by decide +kernel
theorem dX2_ringLength_28 : decode cX2_ringLength 28 = .ok (.istore_n 3, 1) := by decide +kernel
theorem dX2_ringLength_29 : decode cX2_ringLength 29 = .ok (.iinc 2 1, 3) := by decide +kernel
theorem dX2_ringLength_32 : decode cX2_ringLength 32 = .ok (.goto (-23), 3) := by decide +kernel
theorem dX2_ringLength_35 : decode cX2_ringLength 35 = .ok (.iload_n 2, 1) := by decide +kernel
theorem dX2_ringLength_36 : decode cX2_ringLength 36 = .ok (.ireturn, 1) := by decide +kernel
theorem dX2_placeAfter_0 : decode cX2_placeAfter 0 = .ok (.iload_n 2, 1) := by decide +kernel
theorem dX2_placeAfter_1 : decode cX2_placeAfter 1 = .ok (.iconst 1, 1) := by decide +kernel
theorem dX2_placeAfter_2 : decode cX2_placeAfter 2 = .ok (.aload_n 0, 1) := by decide +kernel
theorem dX2_placeAfter_3 : decode cX2_placeAfter 3 = .ok (.iload_n 1, 1) := by decide +kernel
theorem dX2_placeAfter_4 : decode cX2_placeAfter 4 = .ok (.invokevirtual 25, 3) := by decide +kernel
theorem dX2_placeAfter_7 : decode cX2_placeAfter 7 = .ok (.invokestatic 29, 3) := by decide +kernel
theorem dX2_placeAfter_10 : decode cX2_placeAfter 10 = .ok (.irem, 1) := by decide +kernel
theorem dX2_placeAfter_11 : decode cX2_placeAfter 11 = .ok (.istore_n 3, 1) := by decide +kernel
theorem dX2_placeAfter_12 : decode cX2_placeAfter 12 = .ok (.iload_n 1, 1) := by decide +kernel
theorem dX2_placeAfter_13 : decode cX2_placeAfter 13 = .ok (.istore 4, 2) := by decide +kernel
theorem dX2_placeAfter_15 : decode cX2_placeAfter 15 = .ok (.iconst 0, 1) := by decide +kernel
theorem dX2_placeAfter_16 : decode cX2_placeAfter 16 = .ok (.istore 5, 2) := by decide +kernel
theorem dX2_placeAfter_18 : decode cX2_placeAfter 18 = .ok (.iload 5, 2) := by decide +kernel
theorem dX2_placeAfter_20 : decode cX2_placeAfter 20 = .ok (.iload_n 3, 1) := by decide +kernel
theorem dX2_placeAfter_21 : decode cX2_placeAfter 21 = .ok (.if_icmp .ge 18, 3) := by decide +kernel
theorem dX2_placeAfter_24 : decode cX2_placeAfter 24 = .ok (.aload_n 0, 1) := by decide +kernel
theorem dX2_placeAfter_25 : decode cX2_placeAfter 25 = .ok (.getfield 9, 3) := by decide +kernel
theorem dX2_placeAfter_28 : decode cX2_placeAfter 28 = .ok (.iload 4, 2) := by decide +kernel
theorem dX2_placeAfter_30 : decode cX2_placeAfter 30 = .ok (.iaload, 1) := by decide +kernel
theorem dX2_placeAfter_31 : decode cX2_placeAfter 31 = .ok (.istore 4, 2) := by decide +kernel
theorem dX2_placeAfter_33 : decode cX2_placeAfter 33 = .ok (.iinc 5 1, 3) := by decide +kernel
theorem dX2_placeAfter_36 : decode cX2_placeAfter 36 = .ok (.goto (-18), 3) := by decide +kernel
theorem dX2_placeAfter_39 : decode cX2_placeAfter 39 = .ok (.iload 4, 2) := by decide +kernel
theorem dX2_placeAfter_41 : decode cX2_placeAfter 41 = .ok (.ireturn, 1) := by decide +kernel
theorem dX2_order_0 : decode cX2_order 0 = .ok (.iconst 1, 1) := by decide +kernel
theorem dX2_order_1 : decode cX2_order 1 = .ok (.istore_n 1, 1) := by decide +kernel
theorem dX2_order_2 : decode cX2_order 2 = .ok (.iconst 0, 1) := by decide +kernel
theorem dX2_order_3 : decode cX2_order 3 = .ok (.istore_n 2, 1) := by decide +kernel
theorem dX2_order_4 : decode cX2_order 4 = .ok (.iload_n 2, 1) := by decide +kernel
theorem dX2_order_5 : decode cX2_order 5 = .ok (.aload_n 0, 1) := by decide +kernel
theorem dX2_order_6 : decode cX2_order 6 = .ok (.getfield 15, 3) := by decide +kernel
theorem dX2_order_9 : decode cX2_order 9 = .ok (.if_icmp .ge 29, 3) := by decide +kernel
theorem dX2_order_12 : decode cX2_order 12 = .ok (.aload_n 0, 1) := by decide +kernel
theorem dX2_order_13 : decode cX2_order 13 = .ok (.iload_n 2, 1) := by decide +kernel
theorem dX2_order_14 : decode cX2_order 14 = .ok (.invokevirtual 25, 3) := by decide +kernel
theorem dX2_order_17 : decode cX2_order 17 = .ok (.istore_n 3, 1) := by decide +kernel
theorem dX2_order_18 : decode cX2_order 18 = .ok (.iload_n 1, 1) := by decide +kernel
theorem dX2_order_19 : decode cX2_order 19 = .ok (.iconst 1, 1) := by decide +kernel
theorem dX2_order_20 : decode cX2_order 20 = .ok (.iload_n 1, 1) := by decide +kernel
theorem dX2_order_21 : decode cX2_order 21 = .ok (.iload_n 3, 1) := by decide +kernel
theorem dX2_order_22 : decode cX2_order 22 = .ok (.invokestatic 34, 3) := by decide +kernel
theorem dX2_order_25 : decode cX2_order 25 = .ok (.invokestatic 29, 3) := by decide +kernel
theorem dX2_order_28 : decode cX2_order 28 = .ok (.idiv, 1) := by decide +kernel
theorem dX2_order_29 : decode cX2_order 29 = .ok (.iload_n 3, 1) := by decide +kernel
theorem dX2_order_30 : decode cX2_order 30 = .ok (.imul, 1) := by decide +kernel
theorem dX2_order_31 : decode cX2_order 31 = .ok (.istore_n 1, 1) := by decide +kernel
theorem dX2_order_32 : decode cX2_order 32 = .ok (.iinc 2 1, 3) := by decide +kernel
theorem dX2_order_35 : decode cX2_order 35 = .ok (.goto (-31), 3) := by decide +kernel
theorem dX2_order_38 : decode cX2_order 38 = .ok (.iload_n 1, 1) := by decide +kernel
theorem dX2_order_39 : decode cX2_order 39 = .ok (.ireturn, 1) := by decide +kernel
theorem dX2_ringCount_0 : decode cX2_ringCount 0 = .ok (.iconst 0, 1) := by decide +kernel
theorem dX2_ringCount_1 : decode cX2_ringCount 1 = .ok (.istore_n 1, 1) := by decide +kernel
theorem dX2_ringCount_2 : decode cX2_ringCount 2 = .ok (.iconst 0, 1) := by decide +kernel
theorem dX2_ringCount_3 : decode cX2_ringCount 3 = .ok (.istore_n 2, 1) := by decide +kernel
theorem dX2_ringCount_4 : decode cX2_ringCount 4 = .ok (.iload_n 2, 1) := by decide +kernel
theorem dX2_ringCount_5 : decode cX2_ringCount 5 = .ok (.aload_n 0, 1) := by decide +kernel
theorem dX2_ringCount_6 : decode cX2_ringCount 6 = .ok (.getfield 15, 3) := by decide +kernel
theorem dX2_ringCount_9 : decode cX2_ringCount 9 = .ok (.if_icmp .ge 20, 3) := by decide +kernel
theorem dX2_ringCount_12 : decode cX2_ringCount 12 = .ok (.aload_n 0, 1) := by decide +kernel
theorem dX2_ringCount_13 : decode cX2_ringCount 13 = .ok (.iload_n 2, 1) := by decide +kernel
theorem dX2_ringCount_14 : decode cX2_ringCount 14 = .ok (.invokevirtual 37, 3) := by decide +kernel
theorem dX2_ringCount_17 : decode cX2_ringCount 17 = .ok (.ifCond .eq 6, 3) := by decide +kernel
theorem dX2_ringCount_20 : decode cX2_ringCount 20 = .ok (.iinc 1 1, 3) := by decide +kernel
theorem dX2_ringCount_23 : decode cX2_ringCount 23 = .ok (.iinc 2 1, 3) := by decide +kernel
theorem dX2_ringCount_26 : decode cX2_ringCount 26 = .ok (.goto (-22), 3) := by decide +kernel
theorem dX2_ringCount_29 : decode cX2_ringCount 29 = .ok (.iload_n 1, 1) := by decide +kernel
theorem dX2_ringCount_30 : decode cX2_ringCount 30 = .ok (.ireturn, 1) := by decide +kernel
theorem dX2_isLeastOfRing_0 : decode cX2_isLeastOfRing 0 = .ok (.aload_n 0, 1) := by decide +kernel
theorem dX2_isLeastOfRing_1 : decode cX2_isLeastOfRing 1 = .ok (.getfield 9, 3) := by decide +kernel
theorem dX2_isLeastOfRing_4 : decode cX2_isLeastOfRing 4 = .ok (.iload_n 1, 1) := by decide +kernel
theorem dX2_isLeastOfRing_5 : decode cX2_isLeastOfRing 5 = .ok (.iaload, 1) := by decide +kernel
theorem dX2_isLeastOfRing_6 : decode cX2_isLeastOfRing 6 = .ok (.istore_n 2, 1) := by decide +kernel
theorem dX2_isLeastOfRing_7 : decode cX2_isLeastOfRing 7 = .ok (.iconst 0, 1) := by decide +kernel
theorem dX2_isLeastOfRing_8 : decode cX2_isLeastOfRing 8 = .ok (.istore_n 3, 1) := by decide +kernel
theorem dX2_isLeastOfRing_9 : decode cX2_isLeastOfRing 9 = .ok (.iload_n 3, 1) := by decide +kernel
theorem dX2_isLeastOfRing_10 : decode cX2_isLeastOfRing 10 = .ok (.aload_n 0, 1) := by decide +kernel
theorem dX2_isLeastOfRing_11 : decode cX2_isLeastOfRing 11 = .ok (.getfield 15, 3) := by decide +kernel
theorem dX2_isLeastOfRing_14 : decode cX2_isLeastOfRing 14 = .ok (.if_icmp .ge 21, 3) := by decide +kernel
theorem dX2_isLeastOfRing_17 : decode cX2_isLeastOfRing 17 = .ok (.iload_n 2, 1) := by decide +kernel
theorem dX2_isLeastOfRing_18 : decode cX2_isLeastOfRing 18 = .ok (.iload_n 1, 1) := by decide +kernel
theorem dX2_isLeastOfRing_19 : decode cX2_isLeastOfRing 19 = .ok (.if_icmp .le 16, 3) := by decide +kernel
theorem dX2_isLeastOfRing_22 : decode cX2_isLeastOfRing 22 = .ok (.aload_n 0, 1) := by decide +kernel
theorem dX2_isLeastOfRing_23 : decode cX2_isLeastOfRing 23 = .ok (.getfield 9, 3) := by decide +kernel
theorem dX2_isLeastOfRing_26 : decode cX2_isLeastOfRing 26 = .ok (.iload_n 2, 1) := by decide +kernel
theorem dX2_isLeastOfRing_27 : decode cX2_isLeastOfRing 27 = .ok (.iaload, 1) := by decide +kernel
theorem dX2_isLeastOfRing_28 : decode cX2_isLeastOfRing 28 = .ok (.istore_n 2, 1) := by decide +kernel
theorem dX2_isLeastOfRing_29 : decode cX2_isLeastOfRing 29 = .ok (.iinc 3 1, 3) := by decide +kernel
theorem dX2_isLeastOfRing_32 : decode cX2_isLeastOfRing 32 = .ok (.goto (-23), 3) := by decide +kernel
theorem dX2_isLeastOfRing_35 : decode cX2_isLeastOfRing 35 = .ok (.iload_n 2, 1) := by decide +kernel
theorem dX2_isLeastOfRing_36 : decode cX2_isLeastOfRing 36 = .ok (.iload_n 1, 1) := by decide +kernel
theorem dX2_isLeastOfRing_37 : decode cX2_isLeastOfRing 37 = .ok (.if_icmp .ne 7, 3) := by decide +kernel
theorem dX2_isLeastOfRing_40 : decode cX2_isLeastOfRing 40 = .ok (.iconst 1, 1) := by decide +kernel
theorem dX2_isLeastOfRing_41 : decode cX2_isLeastOfRing 41 = .ok (.goto 4, 3) := by decide +kernel
theorem dX2_isLeastOfRing_44 : decode cX2_isLeastOfRing 44 = .ok (.iconst 0, 1) := by decide +kernel
theorem dX2_isLeastOfRing_45 : decode cX2_isLeastOfRing 45 = .ok (.ireturn, 1) := by decide +kernel
theorem dX2_longestRing_0 : decode cX2_longestRing 0 = .ok (.iconst 0, 1) := by decide +kernel
theorem dX2_longestRing_1 : decode cX2_longestRing 1 = .ok (.istore_n 1, 1) := by decide +kernel
theorem dX2_longestRing_2 : decode cX2_longestRing 2 = .ok (.iconst 0, 1) := by decide +kernel
theorem dX2_longestRing_3 : decode cX2_longestRing 3 = .ok (.istore_n 2, 1) := by decide +kernel
theorem dX2_longestRing_4 : decode cX2_longestRing 4 = .ok (.iload_n 2, 1) := by decide +kernel
theorem dX2_longestRing_5 : decode cX2_longestRing 5 = .ok (.aload_n 0, 1) := by decide +kernel
theorem dX2_longestRing_6 : decode cX2_longestRing 6 = .ok (.getfield 15, 3) := by decide +kernel
theorem dX2_longestRing_9 : decode cX2_longestRing 9 = .ok (.if_icmp .ge 19, 3) := by decide +kernel
theorem dX2_longestRing_12 : decode cX2_longestRing 12 = .ok (.iload_n 1, 1) := by decide +kernel
theorem dX2_longestRing_13 : decode cX2_longestRing 13 = .ok (.aload_n 0, 1) := by decide +kernel
theorem dX2_longestRing_14 : decode cX2_longestRing 14 = .ok (.iload_n 2, 1) := by decide +kernel
theorem dX2_longestRing_15 : decode cX2_longestRing 15 = .ok (.invokevirtual 25, 3) := by decide +kernel
theorem dX2_longestRing_18 : decode cX2_longestRing 18 = .ok (.invokestatic 29, 3) := by decide +kernel
theorem dX2_longestRing_21 : decode cX2_longestRing 21 = .ok (.istore_n 1, 1) := by decide +kernel
theorem dX2_longestRing_22 : decode cX2_longestRing 22 = .ok (.iinc 2 1, 3) := by decide +kernel
theorem dX2_longestRing_25 : decode cX2_longestRing 25 = .ok (.goto (-21), 3) := by decide +kernel
theorem dX2_longestRing_28 : decode cX2_longestRing 28 = .ok (.iload_n 1, 1) := by decide +kernel
theorem dX2_longestRing_29 : decode cX2_longestRing 29 = .ok (.ireturn, 1) := by decide +kernel
theorem dX3_init_0 : decode cX3_init 0 = .ok (.aload_n 0, 1) := by decide +kernel
theorem dX3_init_1 : decode cX3_init 1 = .ok (.invokespecial 1, 3) := by decide +kernel
theorem dX3_init_4 : decode cX3_init 4 = .ok (.aload_n 0, 1) := by decide +kernel
theorem dX3_init_5 : decode cX3_init 5 = .ok (.new 7, 3) := by decide +kernel
theorem dX3_init_8 : decode cX3_init 8 = .ok (.dup, 1) := by decide +kernel
theorem dX3_init_9 : decode cX3_init 9 = .ok (.invokespecial 9, 3) := by decide +kernel
theorem dX3_init_12 : decode cX3_init 12 = .ok (.putfield 10, 3) := by decide +kernel
theorem dX3_init_15 : decode cX3_init 15 = .ok (.aload_n 0, 1) := by decide +kernel
theorem dX3_init_16 : decode cX3_init 16 = .ok (.new 16, 3) := by decide +kernel
theorem dX3_init_19 : decode cX3_init 19 = .ok (.dup, 1) := by decide +kernel
theorem dX3_init_20 : decode cX3_init 20 = .ok (.invokespecial 18, 3) := by decide +kernel
theorem dX3_init_23 : decode cX3_init 23 = .ok (.putfield 19, 3) := by decide +kernel
theorem dX3_init_26 : decode cX3_init 26 = .ok (.aload_n 0, 1) := by decide +kernel
theorem dX3_init_27 : decode cX3_init 27 = .ok (.new 16, 3) := by decide +kernel
theorem dX3_init_30 : decode cX3_init 30 = .ok (.dup, 1) := by decide +kernel
theorem dX3_init_31 : decode cX3_init 31 = .ok (.invokespecial 18, 3) := by decide +kernel
theorem dX3_init_34 : decode cX3_init 34 = .ok (.putfield 23, 3) := by decide +kernel
theorem dX3_init_37 : decode cX3_init 37 = .ok (.aload_n 0, 1) := by decide +kernel
theorem dX3_init_38 : decode cX3_init 38 = .ok (.new 26, 3) := by decide +kernel
theorem dX3_init_41 : decode cX3_init 41 = .ok (.dup, 1) := by decide +kernel
theorem dX3_init_42 : decode cX3_init 42 = .ok (.invokespecial 28, 3) := by decide +kernel
theorem dX3_init_45 : decode cX3_init 45 = .ok (.putfield 29, 3) := by decide +kernel
theorem dX3_init_48 : decode cX3_init 48 = .ok (.aload_n 0, 1) := by decide +kernel
theorem dX3_init_49 : decode cX3_init 49 = .ok (.bipush 12, 2) := by decide +kernel
theorem dX3_init_51 : decode cX3_init 51 = .ok (.newarray .int, 2) := by decide +kernel
theorem dX3_init_53 : decode cX3_init 53 = .ok (.putfield 33, 3) := by decide +kernel
theorem dX3_init_56 : decode cX3_init 56 = .ok (.aload_n 0, 1) := by decide +kernel
theorem dX3_init_57 : decode cX3_init 57 = .ok (.bipush 12, 2) := by decide +kernel
theorem dX3_init_59 : decode cX3_init 59 = .ok (.newarray .int, 2) := by decide +kernel
theorem dX3_init_61 : decode cX3_init 61 = .ok (.putfield 37, 3) := by decide +kernel
theorem dX3_init_64 : decode cX3_init 64 = .ok (.aload_n 0, 1) := by decide +kernel
theorem dX3_init_65 : decode cX3_init 65 = .ok (.iconst 4, 1) := by decide +kernel
theorem dX3_init_66 : decode cX3_init 66 = .ok (.newarray .int, 2) := by decide +kernel
theorem dX3_init_68 : decode cX3_init 68 = .ok (.putfield 40, 3) := by decide +kernel
theorem dX3_init_71 : decode cX3_init 71 = .ok (.return_, 1) := by decide +kernel
theorem dX3_letter_0 : decode cX3_letter 0 = .ok (.iload_n 1, 1) := by decide +kernel
theorem dX3_letter_1 : decode cX3_letter 1 = .ok (.iconst 1, 1) := by decide +kernel
theorem dX3_letter_2 : decode cX3_letter 2 = .ok (.if_icmp .lt 9, 3) := by decide +kernel
theorem dX3_letter_5 : decode cX3_letter 5 = .ok (.iload_n 1, 1) := by decide +kernel
theorem dX3_letter_6 : decode cX3_letter 6 = .ok (.bipush 126, 2) := by decide +kernel
theorem dX3_letter_8 : decode cX3_letter 8 = .ok (.if_icmp .le 6, 3) := by decide +kernel
theorem dX3_letter_11 : decode cX3_letter 11 = .ok (.bipush (-102), 2) := by decide +kernel
theorem dX3_letter_13 : decode cX3_letter 13 = .ok (.ireturn, 1) := by decide +kernel
theorem dX3_letter_14 : decode cX3_letter 14 = .ok (.aload_n 0, 1) := by decide +kernel
theorem dX3_letter_15 : decode cX3_letter 15 = .ok (.getfield 10, 3) := by decide +kernel
theorem dX3_letter_18 : decode cX3_letter 18 = .ok (.getfield 43, 3) := by decide +kernel
theorem dX3_letter_21 : decode cX3_letter 21 = .ok (.bipush 22, 2) := by decide +kernel
theorem dX3_letter_23 : decode cX3_letter 23 = .ok (.if_icmp .lt 6, 3) := by decide +kernel
theorem dX3_letter_26 : decode cX3_letter 26 = .ok (.bipush (-104), 2) := by decide +kernel
theorem dX3_letter_28 : decode cX3_letter 28 = .ok (.ireturn, 1) := by decide +kernel
theorem dX3_letter_29 : decode cX3_letter 29 = .ok (.aload_n 0, 1) := by decide +kernel
theorem dX3_letter_30 : decode cX3_letter 30 = .ok (.getfield 10, 3) := by decide +kernel
theorem dX3_letter_33 : decode cX3_letter 33 = .ok (.iload_n 1, 1) := by decide +kernel
theorem dX3_letter_34 : decode cX3_letter 34 = .ok (.invokevirtual 47, 3) := by decide +kernel
theorem dX3_letter_37 : decode cX3_letter 37 = .ok (.aload_n 0, 1) := by decide +kernel
theorem dX3_letter_38 : decode cX3_letter 38 = .ok (.getfield 10, 3) := by decide +kernel
theorem dX3_letter_41 : decode cX3_letter 41 = .ok (.getfield 43, 3) := by decide +kernel
theorem dX3_letter_44 : decode cX3_letter 44 = .ok (.ireturn, 1) := by decide +kernel
theorem dX3_blank_0 : decode cX3_blank 0 = .ok (.aload_n 0, 1) := by decide +kernel
theorem dX3_blank_1 : decode cX3_blank 1 = .ok (.getfield 10, 3) := by decide +kernel
theorem dX3_blank_4 : decode cX3_blank 4 = .ok (.invokevirtual 51, 3) := by decide +kernel
theorem dX3_blank_7 : decode cX3_blank 7 = .ok (.ireturn, 1) := by decide +kernel
theorem dX3_fault_0 : decode cX3_fault 0 = .ok (.aload_n 0, 1) := by decide +kernel
theorem dX3_fault_1 : decode cX3_fault 1 = .ok (.getfield 10, 3) := by decide +kernel
theorem dX3_fault_4 : decode cX3_fault 4 = .ok (.invokevirtual 55, 3) := by decide +kernel
theorem dX3_fault_7 : decode cX3_fault 7 = .ok (.ireturn, 1) := by decide +kernel
theorem dX3_routine_0 : decode cX3_routine 0 = .ok (.aload_n 0, 1) := by decide +kernel
theorem dX3_routine_1 : decode cX3_routine 1 = .ok (.getfield 10, 3) := by decide +kernel
theorem dX3_routine_4 : decode cX3_routine 4 = .ok (.invokevirtual 58, 3) := by decide +kernel
theorem dX3_routine_7 : decode cX3_routine 7 = .ok (.ifCond .ne 6, 3) := by decide +kernel
theorem dX3_routine_10 : decode cX3_routine 10 = .ok (.bipush (-103), 2) := by decide +kernel
theorem dX3_routine_12 : decode cX3_routine 12 = .ok (.ireturn, 1) := by decide +kernel
theorem dX3_routine_13 : decode cX3_routine 13 = .ok (.aload_n 0, 1) := by decide +kernel
theorem dX3_routine_14 : decode cX3_routine 14 = .ok (.getfield 10, 3) := by decide +kernel
theorem dX3_routine_17 : decode cX3_routine 17 = .ok (.aload_n 0, 1) := by decide +kernel
theorem dX3_routine_18 : decode cX3_routine 18 = .ok (.getfield 19, 3) := by decide +kernel
theorem dX3_routine_21 : decode cX3_routine 21 = .ok (.invokevirtual 62, 3) := by decide +kernel
theorem dX3_routine_24 : decode cX3_routine 24 = .ok (.aload_n 0, 1) := by decide +kernel
theorem dX3_routine_25 : decode cX3_routine 25 = .ok (.getfield 10, 3) := by decide +kernel
theorem dX3_routine_28 : decode cX3_routine 28 = .ok (.invokevirtual 51, 3) := by decide +kernel
theorem dX3_routine_31 : decode cX3_routine 31 = .ok (.pop, 1) := by decide +kernel
theorem dX3_routine_32 : decode cX3_routine 32 = .ok (.aload_n 0, 1) := by decide +kernel
theorem dX3_routine_33 : decode cX3_routine 33 = .ok (.iconst 0, 1) := by decide +kernel
theorem dX3_routine_34 : decode cX3_routine 34 = .ok (.putfield 66, 3) := by decide +kernel
theorem dX3_routine_37 : decode cX3_routine 37 = .ok (.aload_n 0, 1) := by decide +kernel
theorem dX3_routine_38 : decode cX3_routine 38 = .ok (.dup, 1) := by decide +kernel
theorem dX3_routine_39 : decode cX3_routine 39 = .ok (.getfield 70, 3) := by decide +kernel
theorem dX3_routine_42 : decode cX3_routine 42 = .ok (.iconst 1, 1) := by decide +kernel
theorem dX3_routine_43 : decode cX3_routine 43 = .ok (.iadd, 1) := by decide +kernel
theorem dX3_routine_44 : decode cX3_routine 44 = .ok (.putfield 70, 3) := by decide +kernel
theorem dX3_routine_47 : decode cX3_routine 47 = .ok (.aload_n 0, 1) := by decide +kernel
theorem dX3_routine_48 : decode cX3_routine 48 = .ok (.getfield 19, 3) := by decide +kernel
theorem dX3_routine_51 : decode cX3_routine 51 = .ok (.getfield 73, 3) := by decide +kernel
theorem dX3_routine_54 : decode cX3_routine 54 = .ok (.ireturn, 1) := by decide +kernel
theorem dX3_step_0 : decode cX3_step 0 = .ok (.aload_n 0, 1) := by decide +kernel
theorem dX3_step_1 : decode cX3_step 1 = .ok (.getfield 19, 3) := by decide +kernel
theorem dX3_step_4 : decode cX3_step 4 = .ok (.iload_n 1, 1) := by decide +kernel
theorem dX3_step_5 : decode cX3_step 5 = .ok (.invokevirtual 76, 3) := by decide +kernel
theorem dX3_step_8 : decode cX3_step 8 = .ok (.ifCond .ne 6, 3) := by decide +kernel
theorem dX3_step_11 : decode cX3_step 11 = .ok (.bipush (-101), 2) := by decide +kernel
theorem dX3_step_13 : decode cX3_step 13 = .ok (.ireturn, 1) := by decide +kernel
theorem dX3_step_14 : decode cX3_step 14 = .ok (.iload_n 2, 1) := by decide +kernel
theorem dX3_step_15 : decode cX3_step 15 = .ok (.tableswitch 106 0 5 #[37, 47, 57, 66, 75, 84], 37) := by decide +kernel
theorem dX3_step_52 : decode cX3_step 52 = .ok (.aload_n 0, 1) := by decide +kernel
theorem dX3_step_53 : decode cX3_step 53 = .ok (.getfield 19, 3) := by decide +kernel
theorem dX3_step_56 : decode cX3_step 56 = .ok (.getfield 80, 3) := by decide +kernel
theorem dX3_step_59 : decode cX3_step 59 = .ok (.iload_n 1, 1) := by decide +kernel
theorem dX3_step_60 : decode cX3_step 60 = .ok (.iaload, 1) := by decide +kernel
theorem dX3_step_61 : decode cX3_step 61 = .ok (.ireturn, 1) := by decide +kernel
theorem dX3_step_62 : decode cX3_step 62 = .ok (.aload_n 0, 1) := by decide +kernel
theorem dX3_step_63 : decode cX3_step 63 = .ok (.getfield 19, 3) := by decide +kernel
theorem dX3_step_66 : decode cX3_step 66 = .ok (.getfield 83, 3) := by decide +kernel
theorem dX3_step_69 : decode cX3_step 69 = .ok (.iload_n 1, 1) := by decide +kernel
theorem dX3_step_70 : decode cX3_step 70 = .ok (.iaload, 1) := by decide +kernel
theorem dX3_step_71 : decode cX3_step 71 = .ok (.ireturn, 1) := by decide +kernel
theorem dX3_step_72 : decode cX3_step 72 = .ok (.aload_n 0, 1) := by decide +kernel
theorem dX3_step_73 : decode cX3_step 73 = .ok (.iload_n 1, 1) := by decide +kernel
theorem dX3_step_74 : decode cX3_step 74 = .ok (.invokevirtual 86, 3) := by decide +kernel
theorem dX3_step_77 : decode cX3_step 77 = .ok (.invokevirtual 90, 3) := by decide +kernel
theorem dX3_step_80 : decode cX3_step 80 = .ok (.ireturn, 1) := by decide +kernel
theorem dX3_step_81 : decode cX3_step 81 = .ok (.aload_n 0, 1) := by decide +kernel
theorem dX3_step_82 : decode cX3_step 82 = .ok (.iload_n 1, 1) := by decide +kernel
theorem dX3_step_83 : decode cX3_step 83 = .ok (.invokevirtual 86, 3) := by decide +kernel
theorem dX3_step_86 : decode cX3_step 86 = .ok (.invokevirtual 93, 3) := by decide +kernel
theorem dX3_step_89 : decode cX3_step 89 = .ok (.ireturn, 1) := by decide +kernel
theorem dX3_step_90 : decode cX3_step 90 = .ok (.aload_n 0, 1) := by decide +kernel
theorem dX3_step_91 : decode cX3_step 91 = .ok (.getfield 19, 3) := by decide +kernel
theorem dX3_step_94 : decode cX3_step 94 = .ok (.iload_n 1, 1) := by decide +kernel
theorem dX3_step_95 : decode cX3_step 95 = .ok (.invokevirtual 96, 3) := by decide +kernel
theorem dX3_step_98 : decode cX3_step 98 = .ok (.ireturn, 1) := by decide +kernel
theorem dX3_step_99 : decode cX3_step 99 = .ok (.aload_n 0, 1) := by decide +kernel
theorem dX3_step_100 : decode cX3_step 100 = .ok (.aload_n 0, 1) := by decide +kernel
theorem dX3_step_101 : decode cX3_step 101 = .ok (.getfield 19, 3) := by decide +kernel
theorem dX3_step_104 : decode cX3_step 104 = .ok (.getfield 80, 3) := by decide +kernel
theorem dX3_step_107 : decode cX3_step 107 = .ok (.iload_n 1, 1) := by decide +kernel
theorem dX3_step_108 : decode cX3_step 108 = .ok (.iaload, 1) := by decide +kernel
theorem dX3_step_109 : decode cX3_step 109 = .ok (.aload_n 0, 1) := by decide +kernel
theorem dX3_step_110 : decode cX3_step 110 = .ok (.getfield 19, 3) := by decide +kernel
theorem dX3_step_113 : decode cX3_step 113 = .ok (.iload_n 1, 1) := by decide +kernel
theorem dX3_step_114 : decode cX3_step 114 = .ok (.invokevirtual 96, 3) := by decide +kernel
theorem dX3_step_117 : decode cX3_step 117 = .ok (.invokevirtual 100, 3) := by decide +kernel
theorem dX3_step_120 : decode cX3_step 120 = .ok (.ireturn, 1) := by decide +kernel
theorem dX3_step_121 : decode cX3_step 121 = .ok (.bipush (-102), 2) := by decide +kernel
theorem dX3_step_123 : decode cX3_step 123 = .ok (.ireturn, 1) := by decide +kernel
theorem dX3_as_0 : decode cX3_as 0 = .ok (.aload_n 0, 1) := by decide +kernel
theorem dX3_as_1 : decode cX3_as 1 = .ok (.getfield 19, 3) := by decide +kernel
theorem dX3_as_4 : decode cX3_as 4 = .ok (.iload_n 1, 1) := by decide +kernel
theorem dX3_as_5 : decode cX3_as 5 = .ok (.invokevirtual 76, 3) := by decide +kernel
theorem dX3_as_8 : decode cX3_as 8 = .ok (.ifCond .ne 6, 3) := by decide +kernel
theorem dX3_as_11 : decode cX3_as 11 = .ok (.bipush (-101), 2) := by decide +kernel
theorem dX3_as_13 : decode cX3_as 13 = .ok (.ireturn, 1) := by decide +kernel
theorem dX3_as_14 : decode cX3_as 14 = .ok (.iload_n 2, 1) := by decide +kernel
theorem dX3_as_15 : decode cX3_as 15 = .ok (.ifCond .lt 8, 3) := by decide +kernel
theorem dX3_as_18 : decode cX3_as 18 = .ok (.iload_n 2, 1) := by decide +kernel
theorem dX3_as_19 : decode cX3_as 19 = .ok (.iconst 5, 1) := by decide +kernel
theorem dX3_as_20 : decode cX3_as 20 = .ok (.if_icmp .lt 6, 3) := by decide +kernel
theorem dX3_as_23 : decode cX3_as 23 = .ok (.bipush (-102), 2) := by decide +kernel
theorem dX3_as_25 : decode cX3_as 25 = .ok (.ireturn, 1) := by decide +kernel
theorem dX3_as_26 : decode cX3_as 26 = .ok (.aload_n 0, 1) := by decide +kernel
theorem dX3_as_27 : decode cX3_as 27 = .ok (.getfield 19, 3) := by decide +kernel
theorem dX3_as_30 : decode cX3_as 30 = .ok (.getfield 80, 3) := by decide +kernel
theorem dX3_as_33 : decode cX3_as 33 = .ok (.iload_n 1, 1) := by decide +kernel
theorem dX3_as_34 : decode cX3_as 34 = .ok (.iaload, 1) := by decide +kernel
theorem dX3_as_35 : decode cX3_as 35 = .ok (.iload_n 2, 1) := by decide +kernel
theorem dX3_as_36 : decode cX3_as 36 = .ok (.invokestatic 104, 3) := by decide +kernel
theorem dX3_as_39 : decode cX3_as 39 = .ok (.ifCond .eq 7, 3) := by decide +kernel
theorem dX3_as_42 : decode cX3_as 42 = .ok (.iload_n 1, 1) := by decide +kernel
theorem dX3_as_43 : decode cX3_as 43 = .ok (.goto 4, 3) := by decide +kernel
theorem dX3_as_46 : decode cX3_as 46 = .ok (.iconst (-1), 1) := by decide +kernel
theorem dX3_as_47 : decode cX3_as 47 = .ok (.ireturn, 1) := by decide +kernel
theorem dX3_at_0 : decode cX3_at 0 = .ok (.aload_n 0, 1) := by decide +kernel
theorem dX3_at_1 : decode cX3_at 1 = .ok (.getfield 19, 3) := by decide +kernel
theorem dX3_at_4 : decode cX3_at 4 = .ok (.iload_n 1, 1) := by decide +kernel
theorem dX3_at_5 : decode cX3_at 5 = .ok (.invokevirtual 108, 3) := by decide +kernel
theorem dX3_at_8 : decode cX3_at 8 = .ok (.ifCond .eq 15, 3) := by decide +kernel
theorem dX3_at_11 : decode cX3_at 11 = .ok (.aload_n 0, 1) := by decide +kernel
theorem dX3_at_12 : decode cX3_at 12 = .ok (.getfield 19, 3) := by decide +kernel
theorem dX3_at_15 : decode cX3_at 15 = .ok (.getfield 111, 3) := by decide +kernel
theorem dX3_at_18 : decode cX3_at 18 = .ok (.iload_n 1, 1) := by decide +kernel
theorem dX3_at_19 : decode cX3_at 19 = .ok (.iaload, 1) := by decide +kernel
theorem dX3_at_20 : decode cX3_at 20 = .ok (.goto 5, 3) := by decide +kernel
theorem dX3_at_23 : decode cX3_at 23 = .ok (.bipush (-101), 2) := by decide +kernel
theorem dX3_at_25 : decode cX3_at 25 = .ok (.ireturn, 1) := by decide +kernel
theorem dX3_goes_0 : decode cX3_goes 0 = .ok (.aload_n 0, 1) := by decide +kernel
theorem dX3_goes_1 : decode cX3_goes 1 = .ok (.getfield 19, 3) := by decide +kernel
theorem dX3_goes_4 : decode cX3_goes 4 = .ok (.iload_n 1, 1) := by decide +kernel
theorem dX3_goes_5 : decode cX3_goes 5 = .ok (.invokevirtual 76, 3) := by decide +kernel
theorem dX3_goes_8 : decode cX3_goes 8 = .ok (.ifCond .eq 14, 3) := by decide +kernel
theorem dX3_goes_11 : decode cX3_goes 11 = .ok (.aload_n 0, 1) := by decide +kernel
theorem dX3_goes_12 : decode cX3_goes 12 = .ok (.getfield 19, 3) := by decide +kernel
theorem dX3_goes_15 : decode cX3_goes 15 = .ok (.iload_n 2, 1) := by decide +kernel
theorem dX3_goes_16 : decode cX3_goes 16 = .ok (.invokevirtual 108, 3) := by decide +kernel
theorem dX3_goes_19 : decode cX3_goes 19 = .ok (.ifCond .ne 6, 3) := by decide +kernel
theorem dX3_goes_22 : decode cX3_goes 22 = .ok (.bipush (-101), 2) := by decide +kernel
theorem dX3_goes_24 : decode cX3_goes 24 = .ok (.ireturn, 1) := by decide +kernel
theorem dX3_goes_25 : decode cX3_goes 25 = .ok (.aload_n 0, 1) := by decide +kernel
theorem dX3_goes_26 : decode cX3_goes 26 = .ok (.getfield 19, 3) := by decide +kernel
theorem dX3_goes_29 : decode cX3_goes 29 = .ok (.iload_n 1, 1) := by decide +kernel
theorem dX3_goes_30 : decode cX3_goes 30 = .ok (.iload_n 2, 1) := by decide +kernel
theorem dX3_goes_31 : decode cX3_goes 31 = .ok (.invokevirtual 114, 3) := by decide +kernel
theorem dX3_goes_34 : decode cX3_goes 34 = .ok (.ireturn, 1) := by decide +kernel
theorem dX3_act_0 : decode cX3_act 0 = .ok (.aload_n 0, 1) := by decide +kernel
theorem dX3_act_1 : decode cX3_act 1 = .ok (.getfield 19, 3) := by decide +kernel
theorem dX3_act_4 : decode cX3_act 4 = .ok (.iload_n 1, 1) := by decide +kernel
theorem dX3_act_5 : decode cX3_act 5 = .ok (.invokevirtual 76, 3) := by decide +kernel
theorem dX3_act_8 : decode cX3_act 8 = .ok (.ifCond .ne 6, 3) := by decide +kernel
theorem dX3_act_11 : decode cX3_act 11 = .ok (.bipush (-101), 2) := by decide +kernel
theorem dX3_act_13 : decode cX3_act 13 = .ok (.ireturn, 1) := by decide +kernel
theorem dX3_act_14 : decode cX3_act 14 = .ok (.aload_n 0, 1) := by decide +kernel
theorem dX3_act_15 : decode cX3_act 15 = .ok (.getfield 19, 3) := by decide +kernel
theorem dX3_act_18 : decode cX3_act 18 = .ok (.getfield 117, 3) := by decide +kernel
theorem dX3_act_21 : decode cX3_act 21 = .ok (.sipush 9999, 3) := by decide +kernel
theorem dX3_act_24 : decode cX3_act 24 = .ok (.if_icmp .lt 6, 3) := by decide +kernel
theorem dX3_act_27 : decode cX3_act 27 = .ok (.bipush (-104), 2) := by decide +kernel
theorem dX3_act_29 : decode cX3_act 29 = .ok (.ireturn, 1) := by decide +kernel
theorem dX3_act_30 : decode cX3_act 30 = .ok (.aload_n 0, 1) := by decide +kernel
theorem dX3_act_31 : decode cX3_act 31 = .ok (.aload_n 0, 1) := by decide +kernel
theorem dX3_act_32 : decode cX3_act 32 = .ok (.iload_n 1, 1) := by decide +kernel
theorem dX3_act_33 : decode cX3_act 33 = .ok (.invokevirtual 86, 3) := by decide +kernel
theorem dX3_act_36 : decode cX3_act 36 = .ok (.iconst 1, 1) := by decide +kernel
theorem dX3_act_37 : decode cX3_act 37 = .ok (.invokevirtual 120, 3) := by decide +kernel
theorem dX3_act_40 : decode cX3_act 40 = .ok (.ireturn, 1) := by decide +kernel
theorem dX3_whole_0 : decode cX3_whole 0 = .ok (.aload_n 0, 1) := by decide +kernel
theorem dX3_whole_1 : decode cX3_whole 1 = .ok (.getfield 19, 3) := by decide +kernel
theorem dX3_whole_4 : decode cX3_whole 4 = .ok (.invokevirtual 124, 3) := by decide +kernel
theorem dX3_whole_7 : decode cX3_whole 7 = .ok (.ifCond .ne 6, 3) := by decide +kernel
theorem dX3_whole_10 : decode cX3_whole 10 = .ok (.bipush (-103), 2) := by decide +kernel
theorem dX3_whole_12 : decode cX3_whole 12 = .ok (.ireturn, 1) := by decide +kernel
theorem dX3_whole_13 : decode cX3_whole 13 = .ok (.aload_n 0, 1) := by decide +kernel
theorem dX3_whole_14 : decode cX3_whole 14 = .ok (.getfield 19, 3) := by decide +kernel
theorem dX3_whole_17 : decode cX3_whole 17 = .ok (.getfield 117, 3) := by decide +kernel
theorem dX3_whole_20 : decode cX3_whole 20 = .ok (.aload_n 0, 1) := by decide +kernel
theorem dX3_whole_21 : decode cX3_whole 21 = .ok (.getfield 19, 3) := by decide +kernel
theorem dX3_whole_24 : decode cX3_whole 24 = .ok (.getfield 73, 3) := by decide +kernel
theorem dX3_whole_27 : decode cX3_whole 27 = .ok (.iadd, 1) := by decide +kernel
theorem dX3_whole_28 : decode cX3_whole 28 = .ok (.sipush 9999, 3) := by decide +kernel
theorem dX3_whole_31 : decode cX3_whole 31 = .ok (.if_icmp .le 6, 3) := by decide +kernel
theorem dX3_whole_34 : decode cX3_whole 34 = .ok (.bipush (-104), 2) := by decide +kernel
theorem dX3_whole_36 : decode cX3_whole 36 = .ok (.ireturn, 1) := by decide +kernel
theorem dX3_whole_37 : decode cX3_whole 37 = .ok (.aload_n 0, 1) := by decide +kernel
theorem dX3_whole_38 : decode cX3_whole 38 = .ok (.aload_n 0, 1) := by decide +kernel
theorem dX3_whole_39 : decode cX3_whole 39 = .ok (.invokevirtual 127, 3) := by decide +kernel
theorem dX3_whole_42 : decode cX3_whole 42 = .ok (.aload_n 0, 1) := by decide +kernel
theorem dX3_whole_43 : decode cX3_whole 43 = .ok (.getfield 19, 3) := by decide +kernel
theorem dX3_whole_46 : decode cX3_whole 46 = .ok (.getfield 73, 3) := by decide +kernel
theorem dX3_whole_49 : decode cX3_whole 49 = .ok (.invokevirtual 120, 3) := by decide +kernel
theorem dX3_whole_52 : decode cX3_whole 52 = .ok (.ireturn, 1) := by decide +kernel
theorem dX3_exchange_0 : decode cX3_exchange 0 = .ok (.aload_n 0, 1) := by decide +kernel
theorem dX3_exchange_1 : decode cX3_exchange 1 = .ok (.getfield 19, 3) := by decide +kernel
theorem dX3_exchange_4 : decode cX3_exchange 4 = .ok (.iload_n 1, 1) := by decide +kernel
theorem dX3_exchange_5 : decode cX3_exchange 5 = .ok (.invokevirtual 108, 3) := by decide +kernel
theorem dX3_exchange_8 : decode cX3_exchange 8 = .ok (.ifCond .eq 19, 3) := by decide +kernel
theorem dX3_exchange_11 : decode cX3_exchange 11 = .ok (.aload_n 0, 1) := by decide +kernel
theorem dX3_exchange_12 : decode cX3_exchange 12 = .ok (.getfield 19, 3) := by decide +kernel
theorem dX3_exchange_15 : decode cX3_exchange 15 = .ok (.iload_n 2, 1) := by decide +kernel
theorem dX3_exchange_16 : decode cX3_exchange 16 = .ok (.invokevirtual 108, 3) := by decide +kernel
theorem dX3_exchange_19 : decode cX3_exchange 19 = .ok (.ifCond .eq 8, 3) := by decide +kernel
theorem dX3_exchange_22 : decode cX3_exchange 22 = .ok (.iload_n 1, 1) := by decide +kernel
theorem dX3_exchange_23 : decode cX3_exchange 23 = .ok (.iload_n 2, 1) := by decide +kernel
theorem dX3_exchange_24 : decode cX3_exchange 24 = .ok (.if_icmp .ne 6, 3) := by decide +kernel
theorem dX3_exchange_27 : decode cX3_exchange 27 = .ok (.bipush (-101), 2) := by decide +kernel
theorem dX3_exchange_29 : decode cX3_exchange 29 = .ok (.ireturn, 1) := by decide +kernel
theorem dX3_exchange_30 : decode cX3_exchange 30 = .ok (.aload_n 0, 1) := by decide +kernel
theorem dX3_exchange_31 : decode cX3_exchange 31 = .ok (.getfield 19, 3) := by decide +kernel
theorem dX3_exchange_34 : decode cX3_exchange 34 = .ok (.getfield 111, 3) := by decide +kernel
theorem dX3_exchange_37 : decode cX3_exchange 37 = .ok (.iload_n 1, 1) := by decide +kernel
theorem dX3_exchange_38 : decode cX3_exchange 38 = .ok (.iaload, 1) := by decide +kernel
theorem dX3_exchange_39 : decode cX3_exchange 39 = .ok (.istore_n 3, 1) := by decide +kernel
theorem dX3_exchange_40 : decode cX3_exchange 40 = .ok (.aload_n 0, 1) := by decide +kernel
theorem dX3_exchange_41 : decode cX3_exchange 41 = .ok (.getfield 19, 3) := by decide +kernel
theorem dX3_exchange_44 : decode cX3_exchange 44 = .ok (.getfield 111, 3) := by decide +kernel
theorem dX3_exchange_47 : decode cX3_exchange 47 = .ok (.iload_n 1, 1) := by decide +kernel
theorem dX3_exchange_48 : decode cX3_exchange 48 = .ok (.aload_n 0, 1) := by decide +kernel
theorem dX3_exchange_49 : decode cX3_exchange 49 = .ok (.getfield 19, 3) := by decide +kernel
theorem dX3_exchange_52 : decode cX3_exchange 52 = .ok (.getfield 111, 3) := by decide +kernel
theorem dX3_exchange_55 : decode cX3_exchange 55 = .ok (.iload_n 2, 1) := by decide +kernel
theorem dX3_exchange_56 : decode cX3_exchange 56 = .ok (.iaload, 1) := by decide +kernel
theorem dX3_exchange_57 : decode cX3_exchange 57 = .ok (.iastore, 1) := by decide +kernel
theorem dX3_exchange_58 : decode cX3_exchange 58 = .ok (.aload_n 0, 1) := by decide +kernel
theorem dX3_exchange_59 : decode cX3_exchange 59 = .ok (.getfield 19, 3) := by decide +kernel
theorem dX3_exchange_62 : decode cX3_exchange 62 = .ok (.getfield 111, 3) := by decide +kernel
theorem dX3_exchange_65 : decode cX3_exchange 65 = .ok (.iload_n 2, 1) := by decide +kernel
theorem dX3_exchange_66 : decode cX3_exchange 66 = .ok (.iload_n 3, 1) := by decide +kernel
theorem dX3_exchange_67 : decode cX3_exchange 67 = .ok (.iastore, 1) := by decide +kernel
theorem dX3_exchange_68 : decode cX3_exchange 68 = .ok (.aload_n 0, 1) := by decide +kernel
theorem dX3_exchange_69 : decode cX3_exchange 69 = .ok (.getfield 19, 3) := by decide +kernel
theorem dX3_exchange_72 : decode cX3_exchange 72 = .ok (.getfield 111, 3) := by decide +kernel
theorem dX3_exchange_75 : decode cX3_exchange 75 = .ok (.iconst 0, 1) := by decide +kernel
theorem dX3_exchange_76 : decode cX3_exchange 76 = .ok (.iaload, 1) := by decide +kernel
theorem dX3_exchange_77 : decode cX3_exchange 77 = .ok (.ireturn, 1) := by decide +kernel
theorem dX3_sort_0 : decode cX3_sort 0 = .ok (.aload_n 0, 1) := by decide +kernel
theorem dX3_sort_1 : decode cX3_sort 1 = .ok (.getfield 19, 3) := by decide +kernel
theorem dX3_sort_4 : decode cX3_sort 4 = .ok (.invokevirtual 124, 3) := by decide +kernel
theorem dX3_sort_7 : decode cX3_sort 7 = .ok (.ifCond .ne 6, 3) := by decide +kernel
theorem dX3_sort_10 : decode cX3_sort 10 = .ok (.bipush (-103), 2) := by decide +kernel
theorem dX3_sort_12 : decode cX3_sort 12 = .ok (.ireturn, 1) := by decide +kernel
theorem dX3_sort_13 : decode cX3_sort 13 = .ok (.aload_n 0, 1) := by decide +kernel
theorem dX3_sort_14 : decode cX3_sort 14 = .ok (.getfield 19, 3) := by decide +kernel
theorem dX3_sort_17 : decode cX3_sort 17 = .ok (.invokevirtual 131, 3) := by decide +kernel
theorem dX3_sort_20 : decode cX3_sort 20 = .ok (.istore_n 1, 1) := by decide +kernel
theorem dX3_sort_21 : decode cX3_sort 21 = .ok (.aload_n 0, 1) := by decide +kernel
theorem dX3_sort_22 : decode cX3_sort 22 = .ok (.getfield 19, 3) := by decide +kernel
theorem dX3_sort_25 : decode cX3_sort 25 = .ok (.invokevirtual 134, 3) := by decide +kernel
theorem dX3_sort_28 : decode cX3_sort 28 = .ok (.iload_n 1, 1) := by decide +kernel
theorem dX3_sort_29 : decode cX3_sort 29 = .ok (.ireturn, 1) := by decide +kernel
theorem dX3_change_0 : decode cX3_change 0 = .ok (.aload_n 0, 1) := by decide +kernel
theorem dX3_change_1 : decode cX3_change 1 = .ok (.getfield 19, 3) := by decide +kernel
theorem dX3_change_4 : decode cX3_change 4 = .ok (.iload_n 1, 1) := by decide +kernel
theorem dX3_change_5 : decode cX3_change 5 = .ok (.invokevirtual 76, 3) := by decide +kernel
theorem dX3_change_8 : decode cX3_change 8 = .ok (.ifCond .ne 6, 3) := by decide +kernel
theorem dX3_change_11 : decode cX3_change 11 = .ok (.bipush (-101), 2) := by decide +kernel
theorem dX3_change_13 : decode cX3_change 13 = .ok (.ireturn, 1) := by decide +kernel
theorem dX3_change_14 : decode cX3_change 14 = .ok (.iload_n 2, 1) := by decide +kernel
theorem dX3_change_15 : decode cX3_change 15 = .ok (.ifCond .lt 18, 3) := by decide +kernel
theorem dX3_change_18 : decode cX3_change 18 = .ok (.iload_n 2, 1) := by decide +kernel
theorem dX3_change_19 : decode cX3_change 19 = .ok (.iconst 5, 1) := by decide +kernel
theorem dX3_change_20 : decode cX3_change 20 = .ok (.if_icmp .ge 13, 3) := by decide +kernel
theorem dX3_change_23 : decode cX3_change 23 = .ok (.iload_n 3, 1) := by decide +kernel
theorem dX3_change_24 : decode cX3_change 24 = .ok (.ifCond .lt 9, 3) := by decide +kernel
theorem dX3_change_27 : decode cX3_change 27 = .ok (.iload_n 3, 1) := by decide +kernel
theorem dX3_change_28 : decode cX3_change 28 = .ok (.bipush 10, 2) := by decide +kernel
theorem dX3_change_30 : decode cX3_change 30 = .ok (.if_icmp .lt 6, 3) := by decide +kernel
theorem dX3_change_33 : decode cX3_change 33 = .ok (.bipush (-102), 2) := by decide +kernel
theorem dX3_change_35 : decode cX3_change 35 = .ok (.ireturn, 1) := by decide +kernel
theorem dX3_change_36 : decode cX3_change 36 = .ok (.aload_n 0, 1) := by decide +kernel
theorem dX3_change_37 : decode cX3_change 37 = .ok (.getfield 19, 3) := by decide +kernel
theorem dX3_change_40 : decode cX3_change 40 = .ok (.getfield 80, 3) := by decide +kernel
theorem dX3_change_43 : decode cX3_change 43 = .ok (.iload_n 1, 1) := by decide +kernel
theorem dX3_change_44 : decode cX3_change 44 = .ok (.iaload, 1) := by decide +kernel
theorem dX3_change_45 : decode cX3_change 45 = .ok (.istore 4, 2) := by decide +kernel
theorem dX3_change_47 : decode cX3_change 47 = .ok (.aload_n 0, 1) := by decide +kernel
theorem dX3_change_48 : decode cX3_change 48 = .ok (.getfield 19, 3) := by decide +kernel
theorem dX3_change_51 : decode cX3_change 51 = .ok (.iload_n 1, 1) := by decide +kernel
theorem dX3_change_52 : decode cX3_change 52 = .ok (.iload_n 2, 1) := by decide +kernel
theorem dX3_change_53 : decode cX3_change 53 = .ok (.iload_n 3, 1) := by decide +kernel
theorem dX3_change_54 : decode cX3_change 54 = .ok (.invokevirtual 137, 3) := by decide +kernel
theorem dX3_change_57 : decode cX3_change 57 = .ok (.iload 4, 2) := by decide +kernel
theorem dX3_change_59 : decode cX3_change 59 = .ok (.ireturn, 1) := by decide +kernel
theorem dX3_round_0 : decode cX3_round 0 = .ok (.aload_n 0, 1) := by decide +kernel
theorem dX3_round_1 : decode cX3_round 1 = .ok (.getfield 19, 3) := by decide +kernel
theorem dX3_round_4 : decode cX3_round 4 = .ok (.iload_n 1, 1) := by decide +kernel
theorem dX3_round_5 : decode cX3_round 5 = .ok (.invokevirtual 108, 3) := by decide +kernel
theorem dX3_round_8 : decode cX3_round 8 = .ok (.ifCond .eq 15, 3) := by decide +kernel
theorem dX3_round_11 : decode cX3_round 11 = .ok (.aload_n 0, 1) := by decide +kernel
theorem dX3_round_12 : decode cX3_round 12 = .ok (.invokevirtual 127, 3) := by decide +kernel
theorem dX3_round_15 : decode cX3_round 15 = .ok (.getfield 141, 3) := by decide +kernel
theorem dX3_round_18 : decode cX3_round 18 = .ok (.iload_n 1, 1) := by decide +kernel
theorem dX3_round_19 : decode cX3_round 19 = .ok (.iaload, 1) := by decide +kernel
theorem dX3_round_20 : decode cX3_round 20 = .ok (.goto 5, 3) := by decide +kernel
theorem dX3_round_23 : decode cX3_round 23 = .ok (.bipush (-101), 2) := by decide +kernel
theorem dX3_round_25 : decode cX3_round 25 = .ok (.ireturn, 1) := by decide +kernel
theorem dX3_after_0 : decode cX3_after 0 = .ok (.aload_n 0, 1) := by decide +kernel
theorem dX3_after_1 : decode cX3_after 1 = .ok (.getfield 19, 3) := by decide +kernel
theorem dX3_after_4 : decode cX3_after 4 = .ok (.iload_n 1, 1) := by decide +kernel
theorem dX3_after_5 : decode cX3_after 5 = .ok (.invokevirtual 108, 3) := by decide +kernel
theorem dX3_after_8 : decode cX3_after 8 = .ok (.ifCond .ne 6, 3) := by decide +kernel
theorem dX3_after_11 : decode cX3_after 11 = .ok (.bipush (-101), 2) := by decide +kernel
theorem dX3_after_13 : decode cX3_after 13 = .ok (.ireturn, 1) := by decide +kernel
theorem dX3_after_14 : decode cX3_after 14 = .ok (.iload_n 2, 1) := by decide +kernel
theorem dX3_after_15 : decode cX3_after 15 = .ok (.ifCond .lt 9, 3) := by decide +kernel
theorem dX3_after_18 : decode cX3_after 18 = .ok (.iload_n 2, 1) := by decide +kernel
theorem dX3_after_19 : decode cX3_after 19 = .ok (.ldc 144, 2) := by decide +kernel
theorem dX3_after_21 : decode cX3_after 21 = .ok (.if_icmp .le 6, 3) := by decide +kernel
theorem dX3_after_24 : decode cX3_after 24 = .ok (.bipush (-102), 2) := by decide +kernel
theorem dX3_after_26 : decode cX3_after 26 = .ok (.ireturn, 1) := by decide +kernel
theorem dX3_after_27 : decode cX3_after 27 = .ok (.aload_n 0, 1) := by decide +kernel
theorem dX3_after_28 : decode cX3_after 28 = .ok (.invokevirtual 127, 3) := by decide +kernel
theorem dX3_after_31 : decode cX3_after 31 = .ok (.iload_n 1, 1) := by decide +kernel
theorem dX3_after_32 : decode cX3_after 32 = .ok (.iload_n 2, 1) := by decide +kernel
theorem dX3_after_33 : decode cX3_after 33 = .ok (.invokevirtual 145, 3) := by decide +kernel
theorem dX3_after_36 : decode cX3_after 36 = .ok (.ireturn, 1) := by decide +kernel
theorem dX3_rings_0 : decode cX3_rings 0 = .ok (.iload_n 1, 1) := by decide +kernel
theorem dX3_rings_1 : decode cX3_rings 1 = .ok (.ifCond .lt 8, 3) := by decide +kernel
theorem dX3_rings_4 : decode cX3_rings 4 = .ok (.iload_n 1, 1) := by decide +kernel
theorem dX3_rings_5 : decode cX3_rings 5 = .ok (.iconst 3, 1) := by decide +kernel
theorem dX3_rings_6 : decode cX3_rings 6 = .ok (.if_icmp .le 6, 3) := by decide +kernel
theorem dX3_rings_9 : decode cX3_rings 9 = .ok (.bipush (-102), 2) := by decide +kernel
theorem dX3_rings_11 : decode cX3_rings 11 = .ok (.ireturn, 1) := by decide +kernel
theorem dX3_rings_12 : decode cX3_rings 12 = .ok (.aload_n 0, 1) := by decide +kernel
theorem dX3_rings_13 : decode cX3_rings 13 = .ok (.getfield 19, 3) := by decide +kernel
theorem dX3_rings_16 : decode cX3_rings 16 = .ok (.invokevirtual 124, 3) := by decide +kernel
theorem dX3_rings_19 : decode cX3_rings 19 = .ok (.ifCond .ne 6, 3) := by decide +kernel
theorem dX3_rings_22 : decode cX3_rings 22 = .ok (.bipush (-103), 2) := by decide +kernel
theorem dX3_rings_24 : decode cX3_rings 24 = .ok (.ireturn, 1) := by decide +kernel
theorem dX3_rings_25 : decode cX3_rings 25 = .ok (.aload_n 0, 1) := by decide +kernel
theorem dX3_rings_26 : decode cX3_rings 26 = .ok (.invokevirtual 127, 3) := by decide +kernel
theorem dX3_rings_29 : decode cX3_rings 29 = .ok (.astore_n 2, 1) := by decide +kernel
theorem dX3_rings_30 : decode cX3_rings 30 = .ok (.iload_n 1, 1) := by decide +kernel
theorem dX3_rings_31 : decode cX3_rings 31 = .ok (.tableswitch 40 0 2 #[25, 30, 35], 25) := by decide +kernel
theorem dX3_rings_56 : decode cX3_rings 56 = .ok (.aload_n 2, 1) := by decide +kernel
theorem dX3_rings_57 : decode cX3_rings 57 = .ok (.invokevirtual 93, 3) := by decide +kernel
theorem dX3_rings_60 : decode cX3_rings 60 = .ok (.ireturn, 1) := by decide +kernel
theorem dX3_rings_61 : decode cX3_rings 61 = .ok (.aload_n 2, 1) := by decide +kernel
theorem dX3_rings_62 : decode cX3_rings 62 = .ok (.invokevirtual 148, 3) := by decide +kernel
theorem dX3_rings_65 : decode cX3_rings 65 = .ok (.ireturn, 1) := by decide +kernel
theorem dX3_rings_66 : decode cX3_rings 66 = .ok (.aload_n 2, 1) := by decide +kernel
theorem dX3_rings_67 : decode cX3_rings 67 = .ok (.invokevirtual 151, 3) := by decide +kernel
theorem dX3_rings_70 : decode cX3_rings 70 = .ok (.ireturn, 1) := by decide +kernel
theorem dX3_rings_71 : decode cX3_rings 71 = .ok (.aload_n 2, 1) := by decide +kernel
theorem dX3_rings_72 : decode cX3_rings 72 = .ok (.invokevirtual 90, 3) := by decide +kernel
theorem dX3_rings_75 : decode cX3_rings 75 = .ok (.ireturn, 1) := by decide +kernel
theorem dX3_bring_0 : decode cX3_bring 0 = .ok (.aload_n 0, 1) := by decide +kernel
theorem dX3_bring_1 : decode cX3_bring 1 = .ok (.getfield 19, 3) := by decide +kernel
theorem dX3_bring_4 : decode cX3_bring 4 = .ok (.iload_n 1, 1) := by decide +kernel
theorem dX3_bring_5 : decode cX3_bring 5 = .ok (.invokevirtual 154, 3) := by decide +kernel
theorem dX3_bring_8 : decode cX3_bring 8 = .ok (.ifCond .eq 14, 3) := by decide +kernel
theorem dX3_bring_11 : decode cX3_bring 11 = .ok (.aload_n 0, 1) := by decide +kernel
theorem dX3_bring_12 : decode cX3_bring 12 = .ok (.getfield 19, 3) := by decide +kernel
theorem dX3_bring_15 : decode cX3_bring 15 = .ok (.iload_n 2, 1) := by decide +kernel
theorem dX3_bring_16 : decode cX3_bring 16 = .ok (.invokevirtual 108, 3) := by decide +kernel
theorem dX3_bring_19 : decode cX3_bring 19 = .ok (.ifCond .ne 6, 3) := by decide +kernel
theorem dX3_bring_22 : decode cX3_bring 22 = .ok (.bipush (-101), 2) := by decide +kernel
theorem dX3_bring_24 : decode cX3_bring 24 = .ok (.ireturn, 1) := by decide +kernel
theorem dX3_bring_25 : decode cX3_bring 25 = .ok (.iload_n 3, 1) := by decide +kernel
theorem dX3_bring_26 : decode cX3_bring 26 = .ok (.ifCond .lt 8, 3) := by decide +kernel
theorem dX3_bring_29 : decode cX3_bring 29 = .ok (.iload_n 3, 1) := by decide +kernel
theorem dX3_bring_30 : decode cX3_bring 30 = .ok (.iconst 1, 1) := by decide +kernel
theorem dX3_bring_31 : decode cX3_bring 31 = .ok (.if_icmp .le 6, 3) := by decide +kernel
theorem dX3_bring_34 : decode cX3_bring 34 = .ok (.bipush (-102), 2) := by decide +kernel
theorem dX3_bring_36 : decode cX3_bring 36 = .ok (.ireturn, 1) := by decide +kernel
theorem dX3_bring_37 : decode cX3_bring 37 = .ok (.aload_n 0, 1) := by decide +kernel
theorem dX3_bring_38 : decode cX3_bring 38 = .ok (.getfield 19, 3) := by decide +kernel
theorem dX3_bring_41 : decode cX3_bring 41 = .ok (.iload_n 1, 1) := by decide +kernel
theorem dX3_bring_42 : decode cX3_bring 42 = .ok (.invokevirtual 157, 3) := by decide +kernel
theorem dX3_bring_45 : decode cX3_bring 45 = .ok (.istore 4, 2) := by decide +kernel
theorem dX3_bring_47 : decode cX3_bring 47 = .ok (.aload_n 0, 1) := by decide +kernel
theorem dX3_bring_48 : decode cX3_bring 48 = .ok (.iload_n 2, 1) := by decide +kernel
theorem dX3_bring_49 : decode cX3_bring 49 = .ok (.invokevirtual 160, 3) := by decide +kernel
theorem dX3_bring_52 : decode cX3_bring 52 = .ok (.iload_n 3, 1) := by decide +kernel
theorem dX3_bring_53 : decode cX3_bring 53 = .ok (.ifCond .ne 13, 3) := by decide +kernel
theorem dX3_bring_56 : decode cX3_bring 56 = .ok (.aload_n 0, 1) := by decide +kernel
theorem dX3_bring_57 : decode cX3_bring 57 = .ok (.getfield 33, 3) := by decide +kernel
theorem dX3_bring_60 : decode cX3_bring 60 = .ok (.iload 4, 2) := by decide +kernel
theorem dX3_bring_62 : decode cX3_bring 62 = .ok (.iaload, 1) := by decide +kernel
theorem dX3_bring_63 : decode cX3_bring 63 = .ok (.goto 9, 3) := by decide +kernel
theorem dX3_bring_66 : decode cX3_bring 66 = .ok (.aload_n 0, 1) := by decide +kernel
theorem dX3_bring_67 : decode cX3_bring 67 = .ok (.iload 4, 2) := by decide +kernel
theorem dX3_bring_69 : decode cX3_bring 69 = .ok (.invokevirtual 163, 3) := by decide +kernel
theorem dX3_bring_72 : decode cX3_bring 72 = .ok (.ireturn, 1) := by decide +kernel
theorem dX3_home_0 : decode cX3_home 0 = .ok (.iload_n 1, 1) := by decide +kernel
theorem dX3_home_1 : decode cX3_home 1 = .ok (.ifCond .lt 8, 3) := by decide +kernel
theorem dX3_home_4 : decode cX3_home 4 = .ok (.iload_n 1, 1) := by decide +kernel
theorem dX3_home_5 : decode cX3_home 5 = .ok (.iconst 1, 1) := by decide +kernel
theorem dX3_home_6 : decode cX3_home 6 = .ok (.if_icmp .le 6, 3) := by decide +kernel
theorem dX3_home_9 : decode cX3_home 9 = .ok (.bipush (-102), 2) := by decide +kernel
theorem dX3_home_11 : decode cX3_home 11 = .ok (.ireturn, 1) := by decide +kernel
theorem dX3_home_12 : decode cX3_home 12 = .ok (.aload_n 0, 1) := by decide +kernel
theorem dX3_home_13 : decode cX3_home 13 = .ok (.getfield 19, 3) := by decide +kernel
theorem dX3_home_16 : decode cX3_home 16 = .ok (.invokevirtual 124, 3) := by decide +kernel
theorem dX3_home_19 : decode cX3_home 19 = .ok (.ifCond .eq 12, 3) := by decide +kernel
theorem dX3_home_22 : decode cX3_home 22 = .ok (.aload_n 0, 1) := by decide +kernel
theorem dX3_home_23 : decode cX3_home 23 = .ok (.getfield 166, 3) := by decide +kernel
theorem dX3_home_26 : decode cX3_home 26 = .ok (.bipush 30, 2) := by decide +kernel
theorem dX3_home_28 : decode cX3_home 28 = .ok (.if_icmp .lt 6, 3) := by decide +kernel
theorem dX3_home_31 : decode cX3_home 31 = .ok (.bipush (-103), 2) := by decide +kernel
theorem dX3_home_33 : decode cX3_home 33 = .ok (.ireturn, 1) := by decide +kernel
theorem dX3_home_34 : decode cX3_home 34 = .ok (.aload_n 0, 1) := by decide +kernel
theorem dX3_home_35 : decode cX3_home 35 = .ok (.dup, 1) := by decide +kernel
theorem dX3_home_36 : decode cX3_home 36 = .ok (.getfield 166, 3) := by decide +kernel
theorem dX3_home_39 : decode cX3_home 39 = .ok (.iconst 1, 1) := by decide +kernel
theorem dX3_home_40 : decode cX3_home 40 = .ok (.iadd, 1) := by decide +kernel
theorem dX3_home_41 : decode cX3_home 41 = .ok (.putfield 166, 3) := by decide +kernel
theorem dX3_home_44 : decode cX3_home 44 = .ok (.iconst 0, 1) := by decide +kernel
theorem dX3_home_45 : decode cX3_home 45 = .ok (.istore_n 2, 1) := by decide +kernel
theorem dX3_home_46 : decode cX3_home 46 = .ok (.iload_n 2, 1) := by decide +kernel
theorem dX3_home_47 : decode cX3_home 47 = .ok (.iconst 4, 1) := by decide +kernel
theorem dX3_home_48 : decode cX3_home 48 = .ok (.if_icmp .gt 31, 3) := by decide +kernel
theorem dX3_home_51 : decode cX3_home 51 = .ok (.aload_n 0, 1) := by decide +kernel
theorem dX3_home_52 : decode cX3_home 52 = .ok (.iload_n 2, 1) := by decide +kernel
theorem dX3_home_53 : decode cX3_home 53 = .ok (.invokevirtual 169, 3) := by decide +kernel
theorem dX3_home_56 : decode cX3_home 56 = .ok (.ifCond .eq 17, 3) := by decide +kernel
theorem dX3_home_59 : decode cX3_home 59 = .ok (.iload_n 1, 1) := by decide +kernel
theorem dX3_home_60 : decode cX3_home 60 = .ok (.ifCond .ne 7, 3) := by decide +kernel
theorem dX3_home_63 : decode cX3_home 63 = .ok (.iload_n 2, 1) := by decide +kernel
theorem dX3_home_64 : decode cX3_home 64 = .ok (.goto 8, 3) := by decide +kernel
theorem dX3_home_67 : decode cX3_home 67 = .ok (.aload_n 0, 1) := by decide +kernel
theorem dX3_home_68 : decode cX3_home 68 = .ok (.iload_n 2, 1) := by decide +kernel
theorem dX3_home_69 : decode cX3_home 69 = .ok (.invokevirtual 172, 3) := by decide +kernel
theorem dX3_home_72 : decode cX3_home 72 = .ok (.ireturn, 1) := by decide +kernel
theorem dX3_home_73 : decode cX3_home 73 = .ok (.iinc 2 1, 3) := by decide +kernel
theorem dX3_home_76 : decode cX3_home 76 = .ok (.goto (-30), 3) := by decide +kernel
theorem dX3_home_79 : decode cX3_home 79 = .ok (.iconst (-1), 1) := by decide +kernel
theorem dX3_home_80 : decode cX3_home 80 = .ok (.ireturn, 1) := by decide +kernel
theorem dX3_odds_0 : decode cX3_odds 0 = .ok (.aload_n 0, 1) := by decide +kernel
theorem dX3_odds_1 : decode cX3_odds 1 = .ok (.getfield 19, 3) := by decide +kernel
theorem dX3_odds_4 : decode cX3_odds 4 = .ok (.iload_n 1, 1) := by decide +kernel
theorem dX3_odds_5 : decode cX3_odds 5 = .ok (.invokevirtual 154, 3) := by decide +kernel
theorem dX3_odds_8 : decode cX3_odds 8 = .ok (.ifCond .eq 14, 3) := by decide +kernel
theorem dX3_odds_11 : decode cX3_odds 11 = .ok (.aload_n 0, 1) := by decide +kernel
theorem dX3_odds_12 : decode cX3_odds 12 = .ok (.getfield 19, 3) := by decide +kernel
theorem dX3_odds_15 : decode cX3_odds 15 = .ok (.iload_n 2, 1) := by decide +kernel
theorem dX3_odds_16 : decode cX3_odds 16 = .ok (.invokevirtual 108, 3) := by decide +kernel
theorem dX3_odds_19 : decode cX3_odds 19 = .ok (.ifCond .ne 6, 3) := by decide +kernel
theorem dX3_odds_22 : decode cX3_odds 22 = .ok (.bipush (-101), 2) := by decide +kernel
theorem dX3_odds_24 : decode cX3_odds 24 = .ok (.ireturn, 1) := by decide +kernel
theorem dX3_odds_25 : decode cX3_odds 25 = .ok (.iload_n 3, 1) := by decide +kernel
theorem dX3_odds_26 : decode cX3_odds 26 = .ok (.iconst 1, 1) := by decide +kernel
theorem dX3_odds_27 : decode cX3_odds 27 = .ok (.if_icmp .lt 20, 3) := by decide +kernel
theorem dX3_odds_30 : decode cX3_odds 30 = .ok (.iload_n 3, 1) := by decide +kernel
theorem dX3_odds_31 : decode cX3_odds 31 = .ok (.bipush 8, 2) := by decide +kernel
theorem dX3_odds_33 : decode cX3_odds 33 = .ok (.if_icmp .gt 14, 3) := by decide +kernel
theorem dX3_odds_36 : decode cX3_odds 36 = .ok (.iload 4, 2) := by decide +kernel
theorem dX3_odds_38 : decode cX3_odds 38 = .ok (.ifCond .lt 9, 3) := by decide +kernel
theorem dX3_odds_41 : decode cX3_odds 41 = .ok (.iload 4, 2) := by decide +kernel
theorem dX3_odds_43 : decode cX3_odds 43 = .ok (.iconst 1, 1) := by decide +kernel
theorem dX3_odds_44 : decode cX3_odds 44 = .ok (.if_icmp .le 6, 3) := by decide +kernel
theorem dX3_odds_47 : decode cX3_odds 47 = .ok (.bipush (-102), 2) := by decide +kernel
theorem dX3_odds_49 : decode cX3_odds 49 = .ok (.ireturn, 1) := by decide +kernel
theorem dX3_odds_50 : decode cX3_odds 50 = .ok (.aload_n 0, 1) := by decide +kernel
theorem dX3_odds_51 : decode cX3_odds 51 = .ok (.aload_n 0, 1) := by decide +kernel
theorem dX3_odds_52 : decode cX3_odds 52 = .ok (.getfield 19, 3) := by decide +kernel
theorem dX3_odds_55 : decode cX3_odds 55 = .ok (.iload_n 1, 1) := by decide +kernel
theorem dX3_odds_56 : decode cX3_odds 56 = .ok (.invokevirtual 157, 3) := by decide +kernel
theorem dX3_odds_59 : decode cX3_odds 59 = .ok (.iload_n 3, 1) := by decide +kernel
theorem dX3_odds_60 : decode cX3_odds 60 = .ok (.invokevirtual 175, 3) := by decide +kernel
theorem dX3_odds_63 : decode cX3_odds 63 = .ok (.aload_n 0, 1) := by decide +kernel
theorem dX3_odds_64 : decode cX3_odds 64 = .ok (.getfield 33, 3) := by decide +kernel
theorem dX3_odds_67 : decode cX3_odds 67 = .ok (.iload_n 2, 1) := by decide +kernel
theorem dX3_odds_68 : decode cX3_odds 68 = .ok (.iaload, 1) := by decide +kernel
theorem dX3_odds_69 : decode cX3_odds 69 = .ok (.istore 5, 2) := by decide +kernel
theorem dX3_odds_71 : decode cX3_odds 71 = .ok (.iconst 1, 1) := by decide +kernel
theorem dX3_odds_72 : decode cX3_odds 72 = .ok (.istore 6, 2) := by decide +kernel
theorem dX3_odds_74 : decode cX3_odds 74 = .ok (.iconst 0, 1) := by decide +kernel
theorem dX3_odds_75 : decode cX3_odds 75 = .ok (.istore 7, 2) := by decide +kernel
theorem dX3_odds_77 : decode cX3_odds 77 = .ok (.iload 7, 2) := by decide +kernel
theorem dX3_odds_79 : decode cX3_odds 79 = .ok (.iload_n 3, 1) := by decide +kernel
theorem dX3_odds_80 : decode cX3_odds 80 = .ok (.if_icmp .ge 21, 3) := by decide +kernel
theorem dX3_odds_83 : decode cX3_odds 83 = .ok (.iload 6, 2) := by decide +kernel
theorem dX3_odds_85 : decode cX3_odds 85 = .ok (.aload_n 0, 1) := by decide +kernel
theorem dX3_odds_86 : decode cX3_odds 86 = .ok (.getfield 19, 3) := by decide +kernel
theorem dX3_odds_89 : decode cX3_odds 89 = .ok (.getfield 73, 3) := by decide +kernel
theorem dX3_odds_92 : decode cX3_odds 92 = .ok (.imul, 1) := by decide +kernel
theorem dX3_odds_93 : decode cX3_odds 93 = .ok (.istore 6, 2) := by decide +kernel
theorem dX3_odds_95 : decode cX3_odds 95 = .ok (.iinc 7 1, 3) := by decide +kernel
theorem dX3_odds_98 : decode cX3_odds 98 = .ok (.goto (-21), 3) := by decide +kernel
theorem dX3_odds_101 : decode cX3_odds 101 = .ok (.iload 4, 2) := by decide +kernel
theorem dX3_odds_103 : decode cX3_odds 103 = .ok (.ifCond .ne 8, 3) := by decide +kernel
theorem dX3_odds_106 : decode cX3_odds 106 = .ok (.iload 5, 2) := by decide +kernel
theorem dX3_odds_108 : decode cX3_odds 108 = .ok (.goto 5, 3) := by decide +kernel
theorem dX3_odds_111 : decode cX3_odds 111 = .ok (.iload 6, 2) := by decide +kernel
theorem dX3_odds_113 : decode cX3_odds 113 = .ok (.istore 7, 2) := by decide +kernel
theorem dX3_odds_115 : decode cX3_odds 115 = .ok (.iload 6, 2) := by decide +kernel
theorem dX3_odds_117 : decode cX3_odds 117 = .ok (.iload 5, 2) := by decide +kernel
theorem dX3_odds_119 : decode cX3_odds 119 = .ok (.invokestatic 179, 3) := by decide +kernel
theorem dX3_odds_122 : decode cX3_odds 122 = .ok (.istore 8, 2) := by decide +kernel
theorem dX3_odds_124 : decode cX3_odds 124 = .ok (.iload 8, 2) := by decide +kernel
theorem dX3_odds_126 : decode cX3_odds 126 = .ok (.ifCond .le 11, 3) := by decide +kernel
theorem dX3_odds_129 : decode cX3_odds 129 = .ok (.iload 7, 2) := by decide +kernel
theorem dX3_odds_131 : decode cX3_odds 131 = .ok (.iload 8, 2) := by decide +kernel
theorem dX3_odds_133 : decode cX3_odds 133 = .ok (.idiv, 1) := by decide +kernel
theorem dX3_odds_134 : decode cX3_odds 134 = .ok (.goto 5, 3) := by decide +kernel
theorem dX3_odds_137 : decode cX3_odds 137 = .ok (.iload 7, 2) := by decide +kernel
theorem dX3_odds_139 : decode cX3_odds 139 = .ok (.ireturn, 1) := by decide +kernel
theorem dX3_see_0 : decode cX3_see 0 = .ok (.aload_n 0, 1) := by decide +kernel
theorem dX3_see_1 : decode cX3_see 1 = .ok (.getfield 19, 3) := by decide +kernel
theorem dX3_see_4 : decode cX3_see 4 = .ok (.iload_n 1, 1) := by decide +kernel
theorem dX3_see_5 : decode cX3_see 5 = .ok (.invokevirtual 76, 3) := by decide +kernel
theorem dX3_see_8 : decode cX3_see 8 = .ok (.ifCond .eq 25, 3) := by decide +kernel
theorem dX3_see_11 : decode cX3_see 11 = .ok (.aload_n 0, 1) := by decide +kernel
theorem dX3_see_12 : decode cX3_see 12 = .ok (.getfield 19, 3) := by decide +kernel
theorem dX3_see_15 : decode cX3_see 15 = .ok (.iload_n 2, 1) := by decide +kernel
theorem dX3_see_16 : decode cX3_see 16 = .ok (.invokevirtual 108, 3) := by decide +kernel
theorem dX3_see_19 : decode cX3_see 19 = .ok (.ifCond .eq 14, 3) := by decide +kernel
theorem dX3_see_22 : decode cX3_see 22 = .ok (.aload_n 0, 1) := by decide +kernel
