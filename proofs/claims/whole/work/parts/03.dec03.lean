theorem dX3_see_23 : decode cX3_see 23 = .ok (.getfield 19, 3) := by decide +kernel
theorem dX3_see_26 : decode cX3_see 26 = .ok (.iload_n 3, 1) := by decide +kernel
theorem dX3_see_27 : decode cX3_see 27 = .ok (.invokevirtual 108, 3) := by decide +kernel
theorem dX3_see_30 : decode cX3_see 30 = .ok (.ifCond .ne 6, 3) := by decide +kernel
theorem dX3_see_33 : decode cX3_see 33 = .ok (.bipush (-101), 2) := by decide +kernel
theorem dX3_see_35 : decode cX3_see 35 = .ok (.ireturn, 1) := by decide +kernel
theorem dX3_see_36 : decode cX3_see 36 = .ok (.aload_n 0, 1) := by decide +kernel
theorem dX3_see_37 : decode cX3_see 37 = .ok (.getfield 19, 3) := by decide +kernel
theorem dX3_see_40 : decode cX3_see 40 = .ok (.getfield 182, 3) := by decide +kernel
theorem dX3_see_43 : decode cX3_see 43 = .ok (.bipush 6, 2) := by decide +kernel
theorem dX3_see_45 : decode cX3_see 45 = .ok (.if_icmp .lt 6, 3) := by decide +kernel
theorem dX3_see_48 : decode cX3_see 48 = .ok (.bipush (-104), 2) := by decide +kernel
theorem dX3_see_50 : decode cX3_see 50 = .ok (.ireturn, 1) := by decide +kernel
theorem dX3_see_51 : decode cX3_see 51 = .ok (.aload_n 0, 1) := by decide +kernel
theorem dX3_see_52 : decode cX3_see 52 = .ok (.getfield 19, 3) := by decide +kernel
theorem dX3_see_55 : decode cX3_see 55 = .ok (.iload_n 1, 1) := by decide +kernel
theorem dX3_see_56 : decode cX3_see 56 = .ok (.iload_n 2, 1) := by decide +kernel
theorem dX3_see_57 : decode cX3_see 57 = .ok (.iload_n 3, 1) := by decide +kernel
theorem dX3_see_58 : decode cX3_see 58 = .ok (.invokevirtual 185, 3) := by decide +kernel
theorem dX3_see_61 : decode cX3_see 61 = .ok (.aload_n 0, 1) := by decide +kernel
theorem dX3_see_62 : decode cX3_see 62 = .ok (.getfield 19, 3) := by decide +kernel
theorem dX3_see_65 : decode cX3_see 65 = .ok (.getfield 182, 3) := by decide +kernel
theorem dX3_see_68 : decode cX3_see 68 = .ok (.ireturn, 1) := by decide +kernel
theorem dX3_forget_0 : decode cX3_forget 0 = .ok (.aload_n 0, 1) := by decide +kernel
theorem dX3_forget_1 : decode cX3_forget 1 = .ok (.getfield 19, 3) := by decide +kernel
theorem dX3_forget_4 : decode cX3_forget 4 = .ok (.getfield 182, 3) := by decide +kernel
theorem dX3_forget_7 : decode cX3_forget 7 = .ok (.istore_n 1, 1) := by decide +kernel
theorem dX3_forget_8 : decode cX3_forget 8 = .ok (.aload_n 0, 1) := by decide +kernel
theorem dX3_forget_9 : decode cX3_forget 9 = .ok (.getfield 19, 3) := by decide +kernel
theorem dX3_forget_12 : decode cX3_forget 12 = .ok (.iconst 0, 1) := by decide +kernel
theorem dX3_forget_13 : decode cX3_forget 13 = .ok (.putfield 182, 3) := by decide +kernel
theorem dX3_forget_16 : decode cX3_forget 16 = .ok (.iload_n 1, 1) := by decide +kernel
theorem dX3_forget_17 : decode cX3_forget 17 = .ok (.ireturn, 1) := by decide +kernel
theorem dX3_runs_0 : decode cX3_runs 0 = .ok (.iload_n 1, 1) := by decide +kernel
theorem dX3_runs_1 : decode cX3_runs 1 = .ok (.iconst 1, 1) := by decide +kernel
theorem dX3_runs_2 : decode cX3_runs 2 = .ok (.if_icmp .lt 22, 3) := by decide +kernel
theorem dX3_runs_5 : decode cX3_runs 5 = .ok (.iload_n 1, 1) := by decide +kernel
theorem dX3_runs_6 : decode cX3_runs 6 = .ok (.bipush 99, 2) := by decide +kernel
theorem dX3_runs_8 : decode cX3_runs 8 = .ok (.if_icmp .gt 16, 3) := by decide +kernel
theorem dX3_runs_11 : decode cX3_runs 11 = .ok (.iload_n 2, 1) := by decide +kernel
theorem dX3_runs_12 : decode cX3_runs 12 = .ok (.ifCond .lt 12, 3) := by decide +kernel
theorem dX3_runs_15 : decode cX3_runs 15 = .ok (.iload_n 3, 1) := by decide +kernel
theorem dX3_runs_16 : decode cX3_runs 16 = .ok (.ifCond .lt 8, 3) := by decide +kernel
theorem dX3_runs_19 : decode cX3_runs 19 = .ok (.iload_n 3, 1) := by decide +kernel
theorem dX3_runs_20 : decode cX3_runs 20 = .ok (.iconst 2, 1) := by decide +kernel
theorem dX3_runs_21 : decode cX3_runs 21 = .ok (.if_icmp .le 6, 3) := by decide +kernel
theorem dX3_runs_24 : decode cX3_runs 24 = .ok (.bipush (-102), 2) := by decide +kernel
theorem dX3_runs_26 : decode cX3_runs 26 = .ok (.ireturn, 1) := by decide +kernel
theorem dX3_runs_27 : decode cX3_runs 27 = .ok (.aload_n 0, 1) := by decide +kernel
theorem dX3_runs_28 : decode cX3_runs 28 = .ok (.getfield 19, 3) := by decide +kernel
theorem dX3_runs_31 : decode cX3_runs 31 = .ok (.invokevirtual 124, 3) := by decide +kernel
theorem dX3_runs_34 : decode cX3_runs 34 = .ok (.ifCond .ne 6, 3) := by decide +kernel
theorem dX3_runs_37 : decode cX3_runs 37 = .ok (.bipush (-103), 2) := by decide +kernel
theorem dX3_runs_39 : decode cX3_runs 39 = .ok (.ireturn, 1) := by decide +kernel
theorem dX3_runs_40 : decode cX3_runs 40 = .ok (.aload_n 0, 1) := by decide +kernel
theorem dX3_runs_41 : decode cX3_runs 41 = .ok (.iload_n 1, 1) := by decide +kernel
theorem dX3_runs_42 : decode cX3_runs 42 = .ok (.iload_n 2, 1) := by decide +kernel
theorem dX3_runs_43 : decode cX3_runs 43 = .ok (.invokevirtual 188, 3) := by decide +kernel
theorem dX3_runs_46 : decode cX3_runs 46 = .ok (.istore 4, 2) := by decide +kernel
theorem dX3_runs_48 : decode cX3_runs 48 = .ok (.iload_n 3, 1) := by decide +kernel
theorem dX3_runs_49 : decode cX3_runs 49 = .ok (.ifCond .ne 15, 3) := by decide +kernel
theorem dX3_runs_52 : decode cX3_runs 52 = .ok (.aload_n 0, 1) := by decide +kernel
theorem dX3_runs_53 : decode cX3_runs 53 = .ok (.getfield 19, 3) := by decide +kernel
theorem dX3_runs_56 : decode cX3_runs 56 = .ok (.aload_n 0, 1) := by decide +kernel
theorem dX3_runs_57 : decode cX3_runs 57 = .ok (.getfield 29, 3) := by decide +kernel
theorem dX3_runs_60 : decode cX3_runs 60 = .ok (.invokevirtual 191, 3) := by decide +kernel
theorem dX3_runs_63 : decode cX3_runs 63 = .ok (.ireturn, 1) := by decide +kernel
theorem dX3_runs_64 : decode cX3_runs 64 = .ok (.iload_n 3, 1) := by decide +kernel
theorem dX3_runs_65 : decode cX3_runs 65 = .ok (.iconst 1, 1) := by decide +kernel
theorem dX3_runs_66 : decode cX3_runs 66 = .ok (.if_icmp .ne 17, 3) := by decide +kernel
theorem dX3_runs_69 : decode cX3_runs 69 = .ok (.aload_n 0, 1) := by decide +kernel
theorem dX3_runs_70 : decode cX3_runs 70 = .ok (.getfield 19, 3) := by decide +kernel
theorem dX3_runs_73 : decode cX3_runs 73 = .ok (.aload_n 0, 1) := by decide +kernel
theorem dX3_runs_74 : decode cX3_runs 74 = .ok (.getfield 29, 3) := by decide +kernel
theorem dX3_runs_77 : decode cX3_runs 77 = .ok (.invokevirtual 195, 3) := by decide +kernel
theorem dX3_runs_80 : decode cX3_runs 80 = .ok (.goto 5, 3) := by decide +kernel
theorem dX3_runs_83 : decode cX3_runs 83 = .ok (.iload 4, 2) := by decide +kernel
theorem dX3_runs_85 : decode cX3_runs 85 = .ok (.ireturn, 1) := by decide +kernel
theorem dX3_image_0 : decode cX3_image 0 = .ok (.aload_n 0, 1) := by decide +kernel
theorem dX3_image_1 : decode cX3_image 1 = .ok (.getfield 19, 3) := by decide +kernel
theorem dX3_image_4 : decode cX3_image 4 = .ok (.invokevirtual 124, 3) := by decide +kernel
theorem dX3_image_7 : decode cX3_image 7 = .ok (.ifCond .ne 6, 3) := by decide +kernel
theorem dX3_image_10 : decode cX3_image 10 = .ok (.bipush (-103), 2) := by decide +kernel
theorem dX3_image_12 : decode cX3_image 12 = .ok (.ireturn, 1) := by decide +kernel
theorem dX3_image_13 : decode cX3_image 13 = .ok (.aload_n 0, 1) := by decide +kernel
theorem dX3_image_14 : decode cX3_image 14 = .ok (.getfield 23, 3) := by decide +kernel
theorem dX3_image_17 : decode cX3_image 17 = .ok (.aload_n 0, 1) := by decide +kernel
theorem dX3_image_18 : decode cX3_image 18 = .ok (.getfield 19, 3) := by decide +kernel
theorem dX3_image_21 : decode cX3_image 21 = .ok (.invokevirtual 198, 3) := by decide +kernel
theorem dX3_image_24 : decode cX3_image 24 = .ok (.aload_n 0, 1) := by decide +kernel
theorem dX3_image_25 : decode cX3_image 25 = .ok (.iconst 1, 1) := by decide +kernel
theorem dX3_image_26 : decode cX3_image 26 = .ok (.putfield 66, 3) := by decide +kernel
theorem dX3_image_29 : decode cX3_image 29 = .ok (.aload_n 0, 1) := by decide +kernel
theorem dX3_image_30 : decode cX3_image 30 = .ok (.getfield 19, 3) := by decide +kernel
theorem dX3_image_33 : decode cX3_image 33 = .ok (.getfield 117, 3) := by decide +kernel
theorem dX3_image_36 : decode cX3_image 36 = .ok (.ireturn, 1) := by decide +kernel
theorem dX3_restore_0 : decode cX3_restore 0 = .ok (.aload_n 0, 1) := by decide +kernel
theorem dX3_restore_1 : decode cX3_restore 1 = .ok (.getfield 66, 3) := by decide +kernel
theorem dX3_restore_4 : decode cX3_restore 4 = .ok (.ifCond .ne 6, 3) := by decide +kernel
theorem dX3_restore_7 : decode cX3_restore 7 = .ok (.bipush (-103), 2) := by decide +kernel
theorem dX3_restore_9 : decode cX3_restore 9 = .ok (.ireturn, 1) := by decide +kernel
theorem dX3_restore_10 : decode cX3_restore 10 = .ok (.aload_n 0, 1) := by decide +kernel
theorem dX3_restore_11 : decode cX3_restore 11 = .ok (.getfield 19, 3) := by decide +kernel
theorem dX3_restore_14 : decode cX3_restore 14 = .ok (.aload_n 0, 1) := by decide +kernel
theorem dX3_restore_15 : decode cX3_restore 15 = .ok (.getfield 23, 3) := by decide +kernel
theorem dX3_restore_18 : decode cX3_restore 18 = .ok (.invokevirtual 198, 3) := by decide +kernel
theorem dX3_restore_21 : decode cX3_restore 21 = .ok (.aload_n 0, 1) := by decide +kernel
theorem dX3_restore_22 : decode cX3_restore 22 = .ok (.getfield 19, 3) := by decide +kernel
theorem dX3_restore_25 : decode cX3_restore 25 = .ok (.getfield 117, 3) := by decide +kernel
theorem dX3_restore_28 : decode cX3_restore 28 = .ok (.ireturn, 1) := by decide +kernel
theorem dX3_count_0 : decode cX3_count 0 = .ok (.iload_n 1, 1) := by decide +kernel
theorem dX3_count_1 : decode cX3_count 1 = .ok (.tableswitch 117 0 8 #[51, 59, 67, 75, 83, 91, 99, 107, 112], 51) := by decide +kernel
theorem dX3_count_52 : decode cX3_count 52 = .ok (.aload_n 0, 1) := by decide +kernel
theorem dX3_count_53 : decode cX3_count 53 = .ok (.getfield 19, 3) := by decide +kernel
theorem dX3_count_56 : decode cX3_count 56 = .ok (.getfield 201, 3) := by decide +kernel
theorem dX3_count_59 : decode cX3_count 59 = .ok (.ireturn, 1) := by decide +kernel
theorem dX3_count_60 : decode cX3_count 60 = .ok (.aload_n 0, 1) := by decide +kernel
theorem dX3_count_61 : decode cX3_count 61 = .ok (.getfield 19, 3) := by decide +kernel
theorem dX3_count_64 : decode cX3_count 64 = .ok (.getfield 73, 3) := by decide +kernel
theorem dX3_count_67 : decode cX3_count 67 = .ok (.ireturn, 1) := by decide +kernel
theorem dX3_count_68 : decode cX3_count 68 = .ok (.aload_n 0, 1) := by decide +kernel
theorem dX3_count_69 : decode cX3_count 69 = .ok (.getfield 19, 3) := by decide +kernel
theorem dX3_count_72 : decode cX3_count 72 = .ok (.invokevirtual 131, 3) := by decide +kernel
theorem dX3_count_75 : decode cX3_count 75 = .ok (.ireturn, 1) := by decide +kernel
theorem dX3_count_76 : decode cX3_count 76 = .ok (.aload_n 0, 1) := by decide +kernel
theorem dX3_count_77 : decode cX3_count 77 = .ok (.getfield 19, 3) := by decide +kernel
theorem dX3_count_80 : decode cX3_count 80 = .ok (.invokevirtual 204, 3) := by decide +kernel
theorem dX3_count_83 : decode cX3_count 83 = .ok (.ireturn, 1) := by decide +kernel
theorem dX3_count_84 : decode cX3_count 84 = .ok (.aload_n 0, 1) := by decide +kernel
theorem dX3_count_85 : decode cX3_count 85 = .ok (.getfield 19, 3) := by decide +kernel
theorem dX3_count_88 : decode cX3_count 88 = .ok (.getfield 117, 3) := by decide +kernel
theorem dX3_count_91 : decode cX3_count 91 = .ok (.ireturn, 1) := by decide +kernel
theorem dX3_count_92 : decode cX3_count 92 = .ok (.aload_n 0, 1) := by decide +kernel
theorem dX3_count_93 : decode cX3_count 93 = .ok (.getfield 19, 3) := by decide +kernel
theorem dX3_count_96 : decode cX3_count 96 = .ok (.getfield 182, 3) := by decide +kernel
theorem dX3_count_99 : decode cX3_count 99 = .ok (.ireturn, 1) := by decide +kernel
theorem dX3_count_100 : decode cX3_count 100 = .ok (.aload_n 0, 1) := by decide +kernel
theorem dX3_count_101 : decode cX3_count 101 = .ok (.getfield 10, 3) := by decide +kernel
theorem dX3_count_104 : decode cX3_count 104 = .ok (.getfield 43, 3) := by decide +kernel
theorem dX3_count_107 : decode cX3_count 107 = .ok (.ireturn, 1) := by decide +kernel
theorem dX3_count_108 : decode cX3_count 108 = .ok (.aload_n 0, 1) := by decide +kernel
theorem dX3_count_109 : decode cX3_count 109 = .ok (.getfield 70, 3) := by decide +kernel
theorem dX3_count_112 : decode cX3_count 112 = .ok (.ireturn, 1) := by decide +kernel
theorem dX3_count_113 : decode cX3_count 113 = .ok (.aload_n 0, 1) := by decide +kernel
theorem dX3_count_114 : decode cX3_count 114 = .ok (.getfield 166, 3) := by decide +kernel
theorem dX3_count_117 : decode cX3_count 117 = .ok (.ireturn, 1) := by decide +kernel
theorem dX3_count_118 : decode cX3_count 118 = .ok (.bipush (-102), 2) := by decide +kernel
theorem dX3_count_120 : decode cX3_count 120 = .ok (.ireturn, 1) := by decide +kernel
theorem dX3_digest_0 : decode cX3_digest 0 = .ok (.aload_n 0, 1) := by decide +kernel
theorem dX3_digest_1 : decode cX3_digest 1 = .ok (.aload_n 0, 1) := by decide +kernel
theorem dX3_digest_2 : decode cX3_digest 2 = .ok (.aload_n 0, 1) := by decide +kernel
theorem dX3_digest_3 : decode cX3_digest 3 = .ok (.ldc2_w 207, 3) := by decide +kernel
theorem dX3_digest_6 : decode cX3_digest 6 = .ok (.invokevirtual 209, 3) := by decide +kernel
theorem dX3_digest_9 : decode cX3_digest 9 = .ok (.invokevirtual 213, 3) := by decide +kernel
theorem dX3_digest_12 : decode cX3_digest 12 = .ok (.invokevirtual 216, 3) := by decide +kernel
theorem dX3_digest_15 : decode cX3_digest 15 = .ok (.lstore_n 1, 1) := by decide +kernel
theorem dX3_digest_16 : decode cX3_digest 16 = .ok (.iconst 0, 1) := by decide +kernel
theorem dX3_digest_17 : decode cX3_digest 17 = .ok (.istore_n 3, 1) := by decide +kernel
theorem dX3_digest_18 : decode cX3_digest 18 = .ok (.iload_n 3, 1) := by decide +kernel
theorem dX3_digest_19 : decode cX3_digest 19 = .ok (.aload_n 0, 1) := by decide +kernel
theorem dX3_digest_20 : decode cX3_digest 20 = .ok (.getfield 10, 3) := by decide +kernel
theorem dX3_digest_23 : decode cX3_digest 23 = .ok (.getfield 43, 3) := by decide +kernel
theorem dX3_digest_26 : decode cX3_digest 26 = .ok (.if_icmp .ge 24, 3) := by decide +kernel
theorem dX3_digest_29 : decode cX3_digest 29 = .ok (.lload_n 1, 1) := by decide +kernel
theorem dX3_digest_30 : decode cX3_digest 30 = .ok (.aload_n 0, 1) := by decide +kernel
theorem dX3_digest_31 : decode cX3_digest 31 = .ok (.getfield 10, 3) := by decide +kernel
theorem dX3_digest_34 : decode cX3_digest 34 = .ok (.getfield 219, 3) := by decide +kernel
theorem dX3_digest_37 : decode cX3_digest 37 = .ok (.iload_n 3, 1) := by decide +kernel
theorem dX3_digest_38 : decode cX3_digest 38 = .ok (.iaload, 1) := by decide +kernel
theorem dX3_digest_39 : decode cX3_digest 39 = .ok (.i2l, 1) := by decide +kernel
theorem dX3_digest_40 : decode cX3_digest 40 = .ok (.invokestatic 222, 3) := by decide +kernel
theorem dX3_digest_43 : decode cX3_digest 43 = .ok (.lstore_n 1, 1) := by decide +kernel
theorem dX3_digest_44 : decode cX3_digest 44 = .ok (.iinc 3 1, 3) := by decide +kernel
theorem dX3_digest_47 : decode cX3_digest 47 = .ok (.goto (-29), 3) := by decide +kernel
theorem dX3_digest_50 : decode cX3_digest 50 = .ok (.iconst 0, 1) := by decide +kernel
theorem dX3_digest_51 : decode cX3_digest 51 = .ok (.istore_n 3, 1) := by decide +kernel
theorem dX3_digest_52 : decode cX3_digest 52 = .ok (.iload_n 3, 1) := by decide +kernel
theorem dX3_digest_53 : decode cX3_digest 53 = .ok (.bipush 8, 2) := by decide +kernel
theorem dX3_digest_55 : decode cX3_digest 55 = .ok (.if_icmp .gt 20, 3) := by decide +kernel
theorem dX3_digest_58 : decode cX3_digest 58 = .ok (.lload_n 1, 1) := by decide +kernel
theorem dX3_digest_59 : decode cX3_digest 59 = .ok (.aload_n 0, 1) := by decide +kernel
theorem dX3_digest_60 : decode cX3_digest 60 = .ok (.iload_n 3, 1) := by decide +kernel
theorem dX3_digest_61 : decode cX3_digest 61 = .ok (.invokevirtual 226, 3) := by decide +kernel
theorem dX3_digest_64 : decode cX3_digest 64 = .ok (.i2l, 1) := by decide +kernel
theorem dX3_digest_65 : decode cX3_digest 65 = .ok (.invokestatic 222, 3) := by decide +kernel
theorem dX3_digest_68 : decode cX3_digest 68 = .ok (.lstore_n 1, 1) := by decide +kernel
theorem dX3_digest_69 : decode cX3_digest 69 = .ok (.iinc 3 1, 3) := by decide +kernel
theorem dX3_digest_72 : decode cX3_digest 72 = .ok (.goto (-20), 3) := by decide +kernel
theorem dX3_digest_75 : decode cX3_digest 75 = .ok (.lload_n 1, 1) := by decide +kernel
theorem dX3_digest_76 : decode cX3_digest 76 = .ok (.lreturn, 1) := by decide +kernel
theorem dX3_digestOfSteps_0 : decode cX3_digestOfSteps 0 = .ok (.lload_n 1, 1) := by decide +kernel
theorem dX3_digestOfSteps_1 : decode cX3_digestOfSteps 1 = .ok (.lstore_n 3, 1) := by decide +kernel
theorem dX3_digestOfSteps_2 : decode cX3_digestOfSteps 2 = .ok (.iconst 0, 1) := by decide +kernel
theorem dX3_digestOfSteps_3 : decode cX3_digestOfSteps 3 = .ok (.istore 5, 2) := by decide +kernel
theorem dX3_digestOfSteps_5 : decode cX3_digestOfSteps 5 = .ok (.iload 5, 2) := by decide +kernel
theorem dX3_digestOfSteps_7 : decode cX3_digestOfSteps 7 = .ok (.aload_n 0, 1) := by decide +kernel
theorem dX3_digestOfSteps_8 : decode cX3_digestOfSteps 8 = .ok (.getfield 19, 3) := by decide +kernel
theorem dX3_digestOfSteps_11 : decode cX3_digestOfSteps 11 = .ok (.getfield 73, 3) := by decide +kernel
theorem dX3_digestOfSteps_14 : decode cX3_digestOfSteps 14 = .ok (.if_icmp .ge 38, 3) := by decide +kernel
theorem dX3_digestOfSteps_17 : decode cX3_digestOfSteps 17 = .ok (.iconst 0, 1) := by decide +kernel
theorem dX3_digestOfSteps_18 : decode cX3_digestOfSteps 18 = .ok (.istore 6, 2) := by decide +kernel
theorem dX3_digestOfSteps_20 : decode cX3_digestOfSteps 20 = .ok (.iload 6, 2) := by decide +kernel
theorem dX3_digestOfSteps_22 : decode cX3_digestOfSteps 22 = .ok (.iconst 5, 1) := by decide +kernel
theorem dX3_digestOfSteps_23 : decode cX3_digestOfSteps 23 = .ok (.if_icmp .gt 23, 3) := by decide +kernel
theorem dX3_digestOfSteps_26 : decode cX3_digestOfSteps 26 = .ok (.lload_n 3, 1) := by decide +kernel
theorem dX3_digestOfSteps_27 : decode cX3_digestOfSteps 27 = .ok (.aload_n 0, 1) := by decide +kernel
theorem dX3_digestOfSteps_28 : decode cX3_digestOfSteps 28 = .ok (.iload 5, 2) := by decide +kernel
theorem dX3_digestOfSteps_30 : decode cX3_digestOfSteps 30 = .ok (.iload 6, 2) := by decide +kernel
theorem dX3_digestOfSteps_32 : decode cX3_digestOfSteps 32 = .ok (.invokevirtual 229, 3) := by decide +kernel
theorem dX3_digestOfSteps_35 : decode cX3_digestOfSteps 35 = .ok (.i2l, 1) := by decide +kernel
theorem dX3_digestOfSteps_36 : decode cX3_digestOfSteps 36 = .ok (.invokestatic 222, 3) := by decide +kernel
theorem dX3_digestOfSteps_39 : decode cX3_digestOfSteps 39 = .ok (.lstore_n 3, 1) := by decide +kernel
theorem dX3_digestOfSteps_40 : decode cX3_digestOfSteps 40 = .ok (.iinc 6 1, 3) := by decide +kernel
theorem dX3_digestOfSteps_43 : decode cX3_digestOfSteps 43 = .ok (.goto (-23), 3) := by decide +kernel
theorem dX3_digestOfSteps_46 : decode cX3_digestOfSteps 46 = .ok (.iinc 5 1, 3) := by decide +kernel
theorem dX3_digestOfSteps_49 : decode cX3_digestOfSteps 49 = .ok (.goto (-44), 3) := by decide +kernel
theorem dX3_digestOfSteps_52 : decode cX3_digestOfSteps 52 = .ok (.lload_n 3, 1) := by decide +kernel
theorem dX3_digestOfSteps_53 : decode cX3_digestOfSteps 53 = .ok (.lreturn, 1) := by decide +kernel
theorem dX3_digestOfPlaces_0 : decode cX3_digestOfPlaces 0 = .ok (.lload_n 1, 1) := by decide +kernel
theorem dX3_digestOfPlaces_1 : decode cX3_digestOfPlaces 1 = .ok (.lstore_n 3, 1) := by decide +kernel
theorem dX3_digestOfPlaces_2 : decode cX3_digestOfPlaces 2 = .ok (.iconst 0, 1) := by decide +kernel
theorem dX3_digestOfPlaces_3 : decode cX3_digestOfPlaces 3 = .ok (.istore 5, 2) := by decide +kernel
theorem dX3_digestOfPlaces_5 : decode cX3_digestOfPlaces 5 = .ok (.iload 5, 2) := by decide +kernel
theorem dX3_digestOfPlaces_7 : decode cX3_digestOfPlaces 7 = .ok (.aload_n 0, 1) := by decide +kernel
theorem dX3_digestOfPlaces_8 : decode cX3_digestOfPlaces 8 = .ok (.getfield 19, 3) := by decide +kernel
theorem dX3_digestOfPlaces_11 : decode cX3_digestOfPlaces 11 = .ok (.getfield 201, 3) := by decide +kernel
theorem dX3_digestOfPlaces_14 : decode cX3_digestOfPlaces 14 = .ok (.if_icmp .ge 47, 3) := by decide +kernel
theorem dX3_digestOfPlaces_17 : decode cX3_digestOfPlaces 17 = .ok (.lload_n 3, 1) := by decide +kernel
theorem dX3_digestOfPlaces_18 : decode cX3_digestOfPlaces 18 = .ok (.aload_n 0, 1) := by decide +kernel
theorem dX3_digestOfPlaces_19 : decode cX3_digestOfPlaces 19 = .ok (.iload 5, 2) := by decide +kernel
theorem dX3_digestOfPlaces_21 : decode cX3_digestOfPlaces 21 = .ok (.invokevirtual 232, 3) := by decide +kernel
theorem dX3_digestOfPlaces_24 : decode cX3_digestOfPlaces 24 = .ok (.i2l, 1) := by decide +kernel
theorem dX3_digestOfPlaces_25 : decode cX3_digestOfPlaces 25 = .ok (.invokestatic 222, 3) := by decide +kernel
theorem dX3_digestOfPlaces_28 : decode cX3_digestOfPlaces 28 = .ok (.lstore_n 3, 1) := by decide +kernel
theorem dX3_digestOfPlaces_29 : decode cX3_digestOfPlaces 29 = .ok (.lload_n 3, 1) := by decide +kernel
theorem dX3_digestOfPlaces_30 : decode cX3_digestOfPlaces 30 = .ok (.aload_n 0, 1) := by decide +kernel
theorem dX3_digestOfPlaces_31 : decode cX3_digestOfPlaces 31 = .ok (.iload 5, 2) := by decide +kernel
theorem dX3_digestOfPlaces_33 : decode cX3_digestOfPlaces 33 = .ok (.invokevirtual 235, 3) := by decide +kernel
theorem dX3_digestOfPlaces_36 : decode cX3_digestOfPlaces 36 = .ok (.i2l, 1) := by decide +kernel
theorem dX3_digestOfPlaces_37 : decode cX3_digestOfPlaces 37 = .ok (.invokestatic 222, 3) := by decide +kernel
theorem dX3_digestOfPlaces_40 : decode cX3_digestOfPlaces 40 = .ok (.lstore_n 3, 1) := by decide +kernel
theorem dX3_digestOfPlaces_41 : decode cX3_digestOfPlaces 41 = .ok (.lload_n 3, 1) := by decide +kernel
theorem dX3_digestOfPlaces_42 : decode cX3_digestOfPlaces 42 = .ok (.aload_n 0, 1) := by decide +kernel
theorem dX3_digestOfPlaces_43 : decode cX3_digestOfPlaces 43 = .ok (.iload 5, 2) := by decide +kernel
theorem dX3_digestOfPlaces_45 : decode cX3_digestOfPlaces 45 = .ok (.bipush 7, 2) := by decide +kernel
theorem dX3_digestOfPlaces_47 : decode cX3_digestOfPlaces 47 = .ok (.invokevirtual 238, 3) := by decide +kernel
theorem dX3_digestOfPlaces_50 : decode cX3_digestOfPlaces 50 = .ok (.i2l, 1) := by decide +kernel
theorem dX3_digestOfPlaces_51 : decode cX3_digestOfPlaces 51 = .ok (.invokestatic 222, 3) := by decide +kernel
theorem dX3_digestOfPlaces_54 : decode cX3_digestOfPlaces 54 = .ok (.lstore_n 3, 1) := by decide +kernel
theorem dX3_digestOfPlaces_55 : decode cX3_digestOfPlaces 55 = .ok (.iinc 5 1, 3) := by decide +kernel
theorem dX3_digestOfPlaces_58 : decode cX3_digestOfPlaces 58 = .ok (.goto (-53), 3) := by decide +kernel
theorem dX3_digestOfPlaces_61 : decode cX3_digestOfPlaces 61 = .ok (.lload_n 3, 1) := by decide +kernel
theorem dX3_digestOfPlaces_62 : decode cX3_digestOfPlaces 62 = .ok (.lreturn, 1) := by decide +kernel
theorem dX3_digestOfRoutine_0 : decode cX3_digestOfRoutine 0 = .ok (.aload_n 0, 1) := by decide +kernel
theorem dX3_digestOfRoutine_1 : decode cX3_digestOfRoutine 1 = .ok (.getfield 19, 3) := by decide +kernel
theorem dX3_digestOfRoutine_4 : decode cX3_digestOfRoutine 4 = .ok (.invokevirtual 124, 3) := by decide +kernel
theorem dX3_digestOfRoutine_7 : decode cX3_digestOfRoutine 7 = .ok (.ifCond .ne 5, 3) := by decide +kernel
theorem dX3_digestOfRoutine_10 : decode cX3_digestOfRoutine 10 = .ok (.lload_n 1, 1) := by decide +kernel
theorem dX3_digestOfRoutine_11 : decode cX3_digestOfRoutine 11 = .ok (.lreturn, 1) := by decide +kernel
theorem dX3_digestOfRoutine_12 : decode cX3_digestOfRoutine 12 = .ok (.lload_n 1, 1) := by decide +kernel
theorem dX3_digestOfRoutine_13 : decode cX3_digestOfRoutine 13 = .ok (.lstore_n 3, 1) := by decide +kernel
theorem dX3_digestOfRoutine_14 : decode cX3_digestOfRoutine 14 = .ok (.iconst 0, 1) := by decide +kernel
theorem dX3_digestOfRoutine_15 : decode cX3_digestOfRoutine 15 = .ok (.istore 5, 2) := by decide +kernel
theorem dX3_digestOfRoutine_17 : decode cX3_digestOfRoutine 17 = .ok (.iload 5, 2) := by decide +kernel
theorem dX3_digestOfRoutine_19 : decode cX3_digestOfRoutine 19 = .ok (.iconst 3, 1) := by decide +kernel
theorem dX3_digestOfRoutine_20 : decode cX3_digestOfRoutine 20 = .ok (.if_icmp .gt 21, 3) := by decide +kernel
theorem dX3_digestOfRoutine_23 : decode cX3_digestOfRoutine 23 = .ok (.lload_n 3, 1) := by decide +kernel
theorem dX3_digestOfRoutine_24 : decode cX3_digestOfRoutine 24 = .ok (.aload_n 0, 1) := by decide +kernel
theorem dX3_digestOfRoutine_25 : decode cX3_digestOfRoutine 25 = .ok (.iload 5, 2) := by decide +kernel
theorem dX3_digestOfRoutine_27 : decode cX3_digestOfRoutine 27 = .ok (.invokevirtual 241, 3) := by decide +kernel
theorem dX3_digestOfRoutine_30 : decode cX3_digestOfRoutine 30 = .ok (.i2l, 1) := by decide +kernel
theorem dX3_digestOfRoutine_31 : decode cX3_digestOfRoutine 31 = .ok (.invokestatic 222, 3) := by decide +kernel
theorem dX3_digestOfRoutine_34 : decode cX3_digestOfRoutine 34 = .ok (.lstore_n 3, 1) := by decide +kernel
theorem dX3_digestOfRoutine_35 : decode cX3_digestOfRoutine 35 = .ok (.iinc 5 1, 3) := by decide +kernel
theorem dX3_digestOfRoutine_38 : decode cX3_digestOfRoutine 38 = .ok (.goto (-21), 3) := by decide +kernel
theorem dX3_digestOfRoutine_41 : decode cX3_digestOfRoutine 41 = .ok (.iconst 0, 1) := by decide +kernel
theorem dX3_digestOfRoutine_42 : decode cX3_digestOfRoutine 42 = .ok (.istore 5, 2) := by decide +kernel
theorem dX3_digestOfRoutine_44 : decode cX3_digestOfRoutine 44 = .ok (.iload 5, 2) := by decide +kernel
theorem dX3_digestOfRoutine_46 : decode cX3_digestOfRoutine 46 = .ok (.iconst 1, 1) := by decide +kernel
theorem dX3_digestOfRoutine_47 : decode cX3_digestOfRoutine 47 = .ok (.if_icmp .gt 23, 3) := by decide +kernel
theorem dX3_digestOfRoutine_50 : decode cX3_digestOfRoutine 50 = .ok (.lload_n 3, 1) := by decide +kernel
theorem dX3_digestOfRoutine_51 : decode cX3_digestOfRoutine 51 = .ok (.aload_n 0, 1) := by decide +kernel
theorem dX3_digestOfRoutine_52 : decode cX3_digestOfRoutine 52 = .ok (.iconst 0, 1) := by decide +kernel
theorem dX3_digestOfRoutine_53 : decode cX3_digestOfRoutine 53 = .ok (.iconst 1, 1) := by decide +kernel
theorem dX3_digestOfRoutine_54 : decode cX3_digestOfRoutine 54 = .ok (.iload 5, 2) := by decide +kernel
theorem dX3_digestOfRoutine_56 : decode cX3_digestOfRoutine 56 = .ok (.invokevirtual 244, 3) := by decide +kernel
theorem dX3_digestOfRoutine_59 : decode cX3_digestOfRoutine 59 = .ok (.i2l, 1) := by decide +kernel
theorem dX3_digestOfRoutine_60 : decode cX3_digestOfRoutine 60 = .ok (.invokestatic 222, 3) := by decide +kernel
theorem dX3_digestOfRoutine_63 : decode cX3_digestOfRoutine 63 = .ok (.lstore_n 3, 1) := by decide +kernel
theorem dX3_digestOfRoutine_64 : decode cX3_digestOfRoutine 64 = .ok (.iinc 5 1, 3) := by decide +kernel
theorem dX3_digestOfRoutine_67 : decode cX3_digestOfRoutine 67 = .ok (.goto (-23), 3) := by decide +kernel
theorem dX3_digestOfRoutine_70 : decode cX3_digestOfRoutine 70 = .ok (.iconst 0, 1) := by decide +kernel
theorem dX3_digestOfRoutine_71 : decode cX3_digestOfRoutine 71 = .ok (.istore 5, 2) := by decide +kernel
theorem dX3_digestOfRoutine_73 : decode cX3_digestOfRoutine 73 = .ok (.iload 5, 2) := by decide +kernel
theorem dX3_digestOfRoutine_75 : decode cX3_digestOfRoutine 75 = .ok (.iconst 1, 1) := by decide +kernel
theorem dX3_digestOfRoutine_76 : decode cX3_digestOfRoutine 76 = .ok (.if_icmp .gt 24, 3) := by decide +kernel
theorem dX3_digestOfRoutine_79 : decode cX3_digestOfRoutine 79 = .ok (.lload_n 3, 1) := by decide +kernel
theorem dX3_digestOfRoutine_80 : decode cX3_digestOfRoutine 80 = .ok (.aload_n 0, 1) := by decide +kernel
theorem dX3_digestOfRoutine_81 : decode cX3_digestOfRoutine 81 = .ok (.iconst 0, 1) := by decide +kernel
theorem dX3_digestOfRoutine_82 : decode cX3_digestOfRoutine 82 = .ok (.iconst 1, 1) := by decide +kernel
theorem dX3_digestOfRoutine_83 : decode cX3_digestOfRoutine 83 = .ok (.iconst 3, 1) := by decide +kernel
theorem dX3_digestOfRoutine_84 : decode cX3_digestOfRoutine 84 = .ok (.iload 5, 2) := by decide +kernel
theorem dX3_digestOfRoutine_86 : decode cX3_digestOfRoutine 86 = .ok (.invokevirtual 248, 3) := by decide +kernel
theorem dX3_digestOfRoutine_89 : decode cX3_digestOfRoutine 89 = .ok (.i2l, 1) := by decide +kernel
theorem dX3_digestOfRoutine_90 : decode cX3_digestOfRoutine 90 = .ok (.invokestatic 222, 3) := by decide +kernel
theorem dX3_digestOfRoutine_93 : decode cX3_digestOfRoutine 93 = .ok (.lstore_n 3, 1) := by decide +kernel
theorem dX3_digestOfRoutine_94 : decode cX3_digestOfRoutine 94 = .ok (.iinc 5 1, 3) := by decide +kernel
theorem dX3_digestOfRoutine_97 : decode cX3_digestOfRoutine 97 = .ok (.goto (-24), 3) := by decide +kernel
theorem dX3_digestOfRoutine_100 : decode cX3_digestOfRoutine 100 = .ok (.lload_n 3, 1) := by decide +kernel
theorem dX3_digestOfRoutine_101 : decode cX3_digestOfRoutine 101 = .ok (.lreturn, 1) := by decide +kernel
theorem dX3_joined_0 : decode cX3_joined 0 = .ok (.ldc2_w 252, 3) := by decide +kernel
theorem dX3_joined_3 : decode cX3_joined 3 = .ok (.lload_n 0, 1) := by decide +kernel
theorem dX3_joined_4 : decode cX3_joined 4 = .ok (.lmul, 1) := by decide +kernel
theorem dX3_joined_5 : decode cX3_joined 5 = .ok (.lload_n 2, 1) := by decide +kernel
theorem dX3_joined_6 : decode cX3_joined 6 = .ok (.ladd, 1) := by decide +kernel
theorem dX3_joined_7 : decode cX3_joined 7 = .ok (.lreturn, 1) := by decide +kernel
theorem dX3_wayOfStep_0 : decode cX3_wayOfStep 0 = .ok (.aload_n 0, 1) := by decide +kernel
theorem dX3_wayOfStep_1 : decode cX3_wayOfStep 1 = .ok (.getfield 29, 3) := by decide +kernel
theorem dX3_wayOfStep_4 : decode cX3_wayOfStep 4 = .ok (.aload_n 0, 1) := by decide +kernel
theorem dX3_wayOfStep_5 : decode cX3_wayOfStep 5 = .ok (.getfield 19, 3) := by decide +kernel
theorem dX3_wayOfStep_8 : decode cX3_wayOfStep 8 = .ok (.getfield 201, 3) := by decide +kernel
theorem dX3_wayOfStep_11 : decode cX3_wayOfStep 11 = .ok (.invokevirtual 254, 3) := by decide +kernel
theorem dX3_wayOfStep_14 : decode cX3_wayOfStep 14 = .ok (.aload_n 0, 1) := by decide +kernel
theorem dX3_wayOfStep_15 : decode cX3_wayOfStep 15 = .ok (.getfield 29, 3) := by decide +kernel
theorem dX3_wayOfStep_18 : decode cX3_wayOfStep 18 = .ok (.aload_n 0, 1) := by decide +kernel
theorem dX3_wayOfStep_19 : decode cX3_wayOfStep 19 = .ok (.getfield 19, 3) := by decide +kernel
theorem dX3_wayOfStep_22 : decode cX3_wayOfStep 22 = .ok (.iload_n 1, 1) := by decide +kernel
theorem dX3_wayOfStep_23 : decode cX3_wayOfStep 23 = .ok (.invokevirtual 257, 3) := by decide +kernel
theorem dX3_wayOfStep_26 : decode cX3_wayOfStep 26 = .ok (.aload_n 0, 1) := by decide +kernel
theorem dX3_wayOfStep_27 : decode cX3_wayOfStep 27 = .ok (.getfield 29, 3) := by decide +kernel
theorem dX3_wayOfStep_30 : decode cX3_wayOfStep 30 = .ok (.areturn, 1) := by decide +kernel
theorem dX3_wayOfRoutine_0 : decode cX3_wayOfRoutine 0 = .ok (.aload_n 0, 1) := by decide +kernel
theorem dX3_wayOfRoutine_1 : decode cX3_wayOfRoutine 1 = .ok (.getfield 29, 3) := by decide +kernel
theorem dX3_wayOfRoutine_4 : decode cX3_wayOfRoutine 4 = .ok (.aload_n 0, 1) := by decide +kernel
theorem dX3_wayOfRoutine_5 : decode cX3_wayOfRoutine 5 = .ok (.getfield 19, 3) := by decide +kernel
theorem dX3_wayOfRoutine_8 : decode cX3_wayOfRoutine 8 = .ok (.getfield 201, 3) := by decide +kernel
theorem dX3_wayOfRoutine_11 : decode cX3_wayOfRoutine 11 = .ok (.invokevirtual 254, 3) := by decide +kernel
theorem dX3_wayOfRoutine_14 : decode cX3_wayOfRoutine 14 = .ok (.iconst 0, 1) := by decide +kernel
theorem dX3_wayOfRoutine_15 : decode cX3_wayOfRoutine 15 = .ok (.istore_n 1, 1) := by decide +kernel
theorem dX3_wayOfRoutine_16 : decode cX3_wayOfRoutine 16 = .ok (.iload_n 1, 1) := by decide +kernel
theorem dX3_wayOfRoutine_17 : decode cX3_wayOfRoutine 17 = .ok (.aload_n 0, 1) := by decide +kernel
theorem dX3_wayOfRoutine_18 : decode cX3_wayOfRoutine 18 = .ok (.getfield 19, 3) := by decide +kernel
theorem dX3_wayOfRoutine_21 : decode cX3_wayOfRoutine 21 = .ok (.getfield 73, 3) := by decide +kernel
theorem dX3_wayOfRoutine_24 : decode cX3_wayOfRoutine 24 = .ok (.if_icmp .ge 21, 3) := by decide +kernel
theorem dX3_wayOfRoutine_27 : decode cX3_wayOfRoutine 27 = .ok (.aload_n 0, 1) := by decide +kernel
theorem dX3_wayOfRoutine_28 : decode cX3_wayOfRoutine 28 = .ok (.getfield 29, 3) := by decide +kernel
theorem dX3_wayOfRoutine_31 : decode cX3_wayOfRoutine 31 = .ok (.aload_n 0, 1) := by decide +kernel
theorem dX3_wayOfRoutine_32 : decode cX3_wayOfRoutine 32 = .ok (.getfield 19, 3) := by decide +kernel
theorem dX3_wayOfRoutine_35 : decode cX3_wayOfRoutine 35 = .ok (.iload_n 1, 1) := by decide +kernel
theorem dX3_wayOfRoutine_36 : decode cX3_wayOfRoutine 36 = .ok (.invokevirtual 257, 3) := by decide +kernel
theorem dX3_wayOfRoutine_39 : decode cX3_wayOfRoutine 39 = .ok (.iinc 1 1, 3) := by decide +kernel
theorem dX3_wayOfRoutine_42 : decode cX3_wayOfRoutine 42 = .ok (.goto (-26), 3) := by decide +kernel
theorem dX3_wayOfRoutine_45 : decode cX3_wayOfRoutine 45 = .ok (.aload_n 0, 1) := by decide +kernel
theorem dX3_wayOfRoutine_46 : decode cX3_wayOfRoutine 46 = .ok (.getfield 29, 3) := by decide +kernel
theorem dX3_wayOfRoutine_49 : decode cX3_wayOfRoutine 49 = .ok (.areturn, 1) := by decide +kernel
theorem dX3_carryOut_0 : decode cX3_carryOut 0 = .ok (.iconst 0, 1) := by decide +kernel
theorem dX3_carryOut_1 : decode cX3_carryOut 1 = .ok (.istore_n 3, 1) := by decide +kernel
theorem dX3_carryOut_2 : decode cX3_carryOut 2 = .ok (.iload_n 3, 1) := by decide +kernel
theorem dX3_carryOut_3 : decode cX3_carryOut 3 = .ok (.aload_n 0, 1) := by decide +kernel
theorem dX3_carryOut_4 : decode cX3_carryOut 4 = .ok (.getfield 19, 3) := by decide +kernel
theorem dX3_carryOut_7 : decode cX3_carryOut 7 = .ok (.getfield 201, 3) := by decide +kernel
theorem dX3_carryOut_10 : decode cX3_carryOut 10 = .ok (.if_icmp .ge 29, 3) := by decide +kernel
theorem dX3_carryOut_13 : decode cX3_carryOut 13 = .ok (.aload_n 0, 1) := by decide +kernel
theorem dX3_carryOut_14 : decode cX3_carryOut 14 = .ok (.getfield 37, 3) := by decide +kernel
theorem dX3_carryOut_17 : decode cX3_carryOut 17 = .ok (.aload_n 1, 1) := by decide +kernel
theorem dX3_carryOut_18 : decode cX3_carryOut 18 = .ok (.getfield 141, 3) := by decide +kernel
theorem dX3_carryOut_21 : decode cX3_carryOut 21 = .ok (.iload_n 3, 1) := by decide +kernel
theorem dX3_carryOut_22 : decode cX3_carryOut 22 = .ok (.iaload, 1) := by decide +kernel
theorem dX3_carryOut_23 : decode cX3_carryOut 23 = .ok (.aload_n 0, 1) := by decide +kernel
theorem dX3_carryOut_24 : decode cX3_carryOut 24 = .ok (.getfield 19, 3) := by decide +kernel
theorem dX3_carryOut_27 : decode cX3_carryOut 27 = .ok (.getfield 111, 3) := by decide +kernel
theorem dX3_carryOut_30 : decode cX3_carryOut 30 = .ok (.iload_n 3, 1) := by decide +kernel
theorem dX3_carryOut_31 : decode cX3_carryOut 31 = .ok (.iaload, 1) := by decide +kernel
theorem dX3_carryOut_32 : decode cX3_carryOut 32 = .ok (.iastore, 1) := by decide +kernel
theorem dX3_carryOut_33 : decode cX3_carryOut 33 = .ok (.iinc 3 1, 3) := by decide +kernel
theorem dX3_carryOut_36 : decode cX3_carryOut 36 = .ok (.goto (-34), 3) := by decide +kernel
theorem dX3_carryOut_39 : decode cX3_carryOut 39 = .ok (.aload_n 0, 1) := by decide +kernel
theorem dX3_carryOut_40 : decode cX3_carryOut 40 = .ok (.getfield 37, 3) := by decide +kernel
theorem dX3_carryOut_43 : decode cX3_carryOut 43 = .ok (.iconst 0, 1) := by decide +kernel
theorem dX3_carryOut_44 : decode cX3_carryOut 44 = .ok (.aload_n 0, 1) := by decide +kernel
theorem dX3_carryOut_45 : decode cX3_carryOut 45 = .ok (.getfield 19, 3) := by decide +kernel
theorem dX3_carryOut_48 : decode cX3_carryOut 48 = .ok (.getfield 111, 3) := by decide +kernel
theorem dX3_carryOut_51 : decode cX3_carryOut 51 = .ok (.iconst 0, 1) := by decide +kernel
theorem dX3_carryOut_52 : decode cX3_carryOut 52 = .ok (.aload_n 0, 1) := by decide +kernel
theorem dX3_carryOut_53 : decode cX3_carryOut 53 = .ok (.getfield 19, 3) := by decide +kernel
theorem dX3_carryOut_56 : decode cX3_carryOut 56 = .ok (.getfield 201, 3) := by decide +kernel
theorem dX3_carryOut_59 : decode cX3_carryOut 59 = .ok (.invokestatic 261, 3) := by decide +kernel
theorem dX3_carryOut_62 : decode cX3_carryOut 62 = .ok (.aload_n 0, 1) := by decide +kernel
theorem dX3_carryOut_63 : decode cX3_carryOut 63 = .ok (.getfield 19, 3) := by decide +kernel
theorem dX3_carryOut_66 : decode cX3_carryOut 66 = .ok (.dup, 1) := by decide +kernel
theorem dX3_carryOut_67 : decode cX3_carryOut 67 = .ok (.getfield 117, 3) := by decide +kernel
theorem dX3_carryOut_70 : decode cX3_carryOut 70 = .ok (.iload_n 2, 1) := by decide +kernel
theorem dX3_carryOut_71 : decode cX3_carryOut 71 = .ok (.iadd, 1) := by decide +kernel
theorem dX3_carryOut_72 : decode cX3_carryOut 72 = .ok (.putfield 117, 3) := by decide +kernel
theorem dX3_carryOut_75 : decode cX3_carryOut 75 = .ok (.aload_n 0, 1) := by decide +kernel
theorem dX3_carryOut_76 : decode cX3_carryOut 76 = .ok (.getfield 19, 3) := by decide +kernel
theorem dX3_carryOut_79 : decode cX3_carryOut 79 = .ok (.getfield 111, 3) := by decide +kernel
theorem dX3_carryOut_82 : decode cX3_carryOut 82 = .ok (.iconst 0, 1) := by decide +kernel
theorem dX3_carryOut_83 : decode cX3_carryOut 83 = .ok (.iaload, 1) := by decide +kernel
theorem dX3_carryOut_84 : decode cX3_carryOut 84 = .ok (.ireturn, 1) := by decide +kernel
theorem dX3_placeToWatch_0 : decode cX3_placeToWatch 0 = .ok (.iload_n 2, 1) := by decide +kernel
theorem dX3_placeToWatch_1 : decode cX3_placeToWatch 1 = .ok (.ifCond .ne 5, 3) := by decide +kernel
theorem dX3_placeToWatch_4 : decode cX3_placeToWatch 4 = .ok (.iconst (-1), 1) := by decide +kernel
theorem dX3_placeToWatch_5 : decode cX3_placeToWatch 5 = .ok (.ireturn, 1) := by decide +kernel
theorem dX3_placeToWatch_6 : decode cX3_placeToWatch 6 = .ok (.iconst 0, 1) := by decide +kernel
theorem dX3_placeToWatch_7 : decode cX3_placeToWatch 7 = .ok (.istore_n 3, 1) := by decide +kernel
theorem dX3_placeToWatch_8 : decode cX3_placeToWatch 8 = .ok (.bipush 11, 2) := by decide +kernel
theorem dX3_placeToWatch_10 : decode cX3_placeToWatch 10 = .ok (.istore 4, 2) := by decide +kernel
theorem dX3_placeToWatch_12 : decode cX3_placeToWatch 12 = .ok (.iconst 0, 1) := by decide +kernel
theorem dX3_placeToWatch_13 : decode cX3_placeToWatch 13 = .ok (.istore 5, 2) := by decide +kernel
theorem dX3_placeToWatch_15 : decode cX3_placeToWatch 15 = .ok (.iload 5, 2) := by decide +kernel
theorem dX3_placeToWatch_17 : decode cX3_placeToWatch 17 = .ok (.aload_n 0, 1) := by decide +kernel
theorem dX3_placeToWatch_18 : decode cX3_placeToWatch 18 = .ok (.getfield 19, 3) := by decide +kernel
theorem dX3_placeToWatch_21 : decode cX3_placeToWatch 21 = .ok (.getfield 201, 3) := by decide +kernel
theorem dX3_placeToWatch_24 : decode cX3_placeToWatch 24 = .ok (.if_icmp .ge 33, 3) := by decide +kernel
theorem dX3_placeToWatch_27 : decode cX3_placeToWatch 27 = .ok (.aload_n 0, 1) := by decide +kernel
theorem dX3_placeToWatch_28 : decode cX3_placeToWatch 28 = .ok (.iload_n 1, 1) := by decide +kernel
theorem dX3_placeToWatch_29 : decode cX3_placeToWatch 29 = .ok (.iload_n 2, 1) := by decide +kernel
theorem dX3_placeToWatch_30 : decode cX3_placeToWatch 30 = .ok (.iload 5, 2) := by decide +kernel
theorem dX3_placeToWatch_32 : decode cX3_placeToWatch 32 = .ok (.invokevirtual 267, 3) := by decide +kernel
theorem dX3_placeToWatch_35 : decode cX3_placeToWatch 35 = .ok (.istore 6, 2) := by decide +kernel
theorem dX3_placeToWatch_37 : decode cX3_placeToWatch 37 = .ok (.iload 6, 2) := by decide +kernel
theorem dX3_placeToWatch_39 : decode cX3_placeToWatch 39 = .ok (.iload 4, 2) := by decide +kernel
theorem dX3_placeToWatch_41 : decode cX3_placeToWatch 41 = .ok (.if_icmp .ge 10, 3) := by decide +kernel
theorem dX3_placeToWatch_44 : decode cX3_placeToWatch 44 = .ok (.iload 6, 2) := by decide +kernel
theorem dX3_placeToWatch_46 : decode cX3_placeToWatch 46 = .ok (.istore 4, 2) := by decide +kernel
theorem dX3_placeToWatch_48 : decode cX3_placeToWatch 48 = .ok (.iload 5, 2) := by decide +kernel
theorem dX3_placeToWatch_50 : decode cX3_placeToWatch 50 = .ok (.istore_n 3, 1) := by decide +kernel
theorem dX3_placeToWatch_51 : decode cX3_placeToWatch 51 = .ok (.iinc 5 1, 3) := by decide +kernel
theorem dX3_placeToWatch_54 : decode cX3_placeToWatch 54 = .ok (.goto (-39), 3) := by decide +kernel
theorem dX3_placeToWatch_57 : decode cX3_placeToWatch 57 = .ok (.iload_n 3, 1) := by decide +kernel
theorem dX3_placeToWatch_58 : decode cX3_placeToWatch 58 = .ok (.ireturn, 1) := by decide +kernel
theorem dX3_leftAtWorst_0 : decode cX3_leftAtWorst 0 = .ok (.aload_n 0, 1) := by decide +kernel
theorem dX3_leftAtWorst_1 : decode cX3_leftAtWorst 1 = .ok (.getfield 33, 3) := by decide +kernel
theorem dX3_leftAtWorst_4 : decode cX3_leftAtWorst 4 = .ok (.iconst 0, 1) := by decide +kernel
theorem dX3_leftAtWorst_5 : decode cX3_leftAtWorst 5 = .ok (.invokestatic 270, 3) := by decide +kernel
theorem dX3_leftAtWorst_8 : decode cX3_leftAtWorst 8 = .ok (.iconst 0, 1) := by decide +kernel
theorem dX3_leftAtWorst_9 : decode cX3_leftAtWorst 9 = .ok (.istore 4, 2) := by decide +kernel
theorem dX3_leftAtWorst_11 : decode cX3_leftAtWorst 11 = .ok (.iconst 0, 1) := by decide +kernel
theorem dX3_leftAtWorst_12 : decode cX3_leftAtWorst 12 = .ok (.istore 5, 2) := by decide +kernel
theorem dX3_leftAtWorst_14 : decode cX3_leftAtWorst 14 = .ok (.iload 5, 2) := by decide +kernel
theorem dX3_leftAtWorst_16 : decode cX3_leftAtWorst 16 = .ok (.bipush 10, 2) := by decide +kernel
theorem dX3_leftAtWorst_18 : decode cX3_leftAtWorst 18 = .ok (.if_icmp .ge 60, 3) := by decide +kernel
theorem dX3_leftAtWorst_21 : decode cX3_leftAtWorst 21 = .ok (.iload_n 2, 1) := by decide +kernel
theorem dX3_leftAtWorst_22 : decode cX3_leftAtWorst 22 = .ok (.iload 5, 2) := by decide +kernel
theorem dX3_leftAtWorst_24 : decode cX3_leftAtWorst 24 = .ok (.ishr, 1) := by decide +kernel
theorem dX3_leftAtWorst_25 : decode cX3_leftAtWorst 25 = .ok (.iconst 1, 1) := by decide +kernel
theorem dX3_leftAtWorst_26 : decode cX3_leftAtWorst 26 = .ok (.iand, 1) := by decide +kernel
theorem dX3_leftAtWorst_27 : decode cX3_leftAtWorst 27 = .ok (.iconst 1, 1) := by decide +kernel
theorem dX3_leftAtWorst_28 : decode cX3_leftAtWorst 28 = .ok (.if_icmp .ne 44, 3) := by decide +kernel
theorem dX3_leftAtWorst_31 : decode cX3_leftAtWorst 31 = .ok (.iload_n 1, 1) := by decide +kernel
theorem dX3_leftAtWorst_32 : decode cX3_leftAtWorst 32 = .ok (.iload 5, 2) := by decide +kernel
theorem dX3_leftAtWorst_34 : decode cX3_leftAtWorst 34 = .ok (.aload_n 0, 1) := by decide +kernel
theorem dX3_leftAtWorst_35 : decode cX3_leftAtWorst 35 = .ok (.getfield 19, 3) := by decide +kernel
theorem dX3_leftAtWorst_38 : decode cX3_leftAtWorst 38 = .ok (.getfield 201, 3) := by decide +kernel
theorem dX3_leftAtWorst_41 : decode cX3_leftAtWorst 41 = .ok (.iload_n 3, 1) := by decide +kernel
theorem dX3_leftAtWorst_42 : decode cX3_leftAtWorst 42 = .ok (.invokestatic 276, 3) := by decide +kernel
theorem dX3_leftAtWorst_45 : decode cX3_leftAtWorst 45 = .ok (.istore 6, 2) := by decide +kernel
theorem dX3_leftAtWorst_47 : decode cX3_leftAtWorst 47 = .ok (.aload_n 0, 1) := by decide +kernel
theorem dX3_leftAtWorst_48 : decode cX3_leftAtWorst 48 = .ok (.getfield 33, 3) := by decide +kernel
theorem dX3_leftAtWorst_51 : decode cX3_leftAtWorst 51 = .ok (.iload 6, 2) := by decide +kernel
theorem dX3_leftAtWorst_53 : decode cX3_leftAtWorst 53 = .ok (.dup2, 1) := by decide +kernel
theorem dX3_leftAtWorst_54 : decode cX3_leftAtWorst 54 = .ok (.iaload, 1) := by decide +kernel
theorem dX3_leftAtWorst_55 : decode cX3_leftAtWorst 55 = .ok (.iconst 1, 1) := by decide +kernel
theorem dX3_leftAtWorst_56 : decode cX3_leftAtWorst 56 = .ok (.iadd, 1) := by decide +kernel
theorem dX3_leftAtWorst_57 : decode cX3_leftAtWorst 57 = .ok (.iastore, 1) := by decide +kernel
theorem dX3_leftAtWorst_58 : decode cX3_leftAtWorst 58 = .ok (.iload 4, 2) := by decide +kernel
theorem dX3_leftAtWorst_60 : decode cX3_leftAtWorst 60 = .ok (.aload_n 0, 1) := by decide +kernel
theorem dX3_leftAtWorst_61 : decode cX3_leftAtWorst 61 = .ok (.getfield 33, 3) := by decide +kernel
theorem dX3_leftAtWorst_64 : decode cX3_leftAtWorst 64 = .ok (.iload 6, 2) := by decide +kernel
theorem dX3_leftAtWorst_66 : decode cX3_leftAtWorst 66 = .ok (.iaload, 1) := by decide +kernel
theorem dX3_leftAtWorst_67 : decode cX3_leftAtWorst 67 = .ok (.invokestatic 279, 3) := by decide +kernel
theorem dX3_leftAtWorst_70 : decode cX3_leftAtWorst 70 = .ok (.istore 4, 2) := by decide +kernel
theorem dX3_leftAtWorst_72 : decode cX3_leftAtWorst 72 = .ok (.iinc 5 1, 3) := by decide +kernel
theorem dX3_leftAtWorst_75 : decode cX3_leftAtWorst 75 = .ok (.goto (-61), 3) := by decide +kernel
theorem dX3_leftAtWorst_78 : decode cX3_leftAtWorst 78 = .ok (.iload 4, 2) := by decide +kernel
theorem dX3_leftAtWorst_80 : decode cX3_leftAtWorst 80 = .ok (.ireturn, 1) := by decide +kernel
theorem dX3_tellDistancesTo_0 : decode cX3_tellDistancesTo 0 = .ok (.aload_n 0, 1) := by decide +kernel
theorem dX3_tellDistancesTo_1 : decode cX3_tellDistancesTo 1 = .ok (.getfield 33, 3) := by decide +kernel
theorem dX3_tellDistancesTo_4 : decode cX3_tellDistancesTo 4 = .ok (.iconst (-1), 1) := by decide +kernel
theorem dX3_tellDistancesTo_5 : decode cX3_tellDistancesTo 5 = .ok (.invokestatic 270, 3) := by decide +kernel
theorem dX3_tellDistancesTo_8 : decode cX3_tellDistancesTo 8 = .ok (.aload_n 0, 1) := by decide +kernel
theorem dX3_tellDistancesTo_9 : decode cX3_tellDistancesTo 9 = .ok (.getfield 33, 3) := by decide +kernel
theorem dX3_tellDistancesTo_12 : decode cX3_tellDistancesTo 12 = .ok (.iload_n 1, 1) := by decide +kernel
theorem dX3_tellDistancesTo_13 : decode cX3_tellDistancesTo 13 = .ok (.iconst 0, 1) := by decide +kernel
theorem dX3_tellDistancesTo_14 : decode cX3_tellDistancesTo 14 = .ok (.iastore, 1) := by decide +kernel
theorem dX3_tellDistancesTo_15 : decode cX3_tellDistancesTo 15 = .ok (.iconst 1, 1) := by decide +kernel
theorem dX3_tellDistancesTo_16 : decode cX3_tellDistancesTo 16 = .ok (.istore_n 2, 1) := by decide +kernel
theorem dX3_tellDistancesTo_17 : decode cX3_tellDistancesTo 17 = .ok (.iload_n 2, 1) := by decide +kernel
theorem dX3_tellDistancesTo_18 : decode cX3_tellDistancesTo 18 = .ok (.aload_n 0, 1) := by decide +kernel
theorem dX3_tellDistancesTo_19 : decode cX3_tellDistancesTo 19 = .ok (.getfield 19, 3) := by decide +kernel
theorem dX3_tellDistancesTo_22 : decode cX3_tellDistancesTo 22 = .ok (.getfield 201, 3) := by decide +kernel
theorem dX3_tellDistancesTo_25 : decode cX3_tellDistancesTo 25 = .ok (.if_icmp .ge 57, 3) := by decide +kernel
theorem dX3_tellDistancesTo_28 : decode cX3_tellDistancesTo 28 = .ok (.iconst 0, 1) := by decide +kernel
theorem dX3_tellDistancesTo_29 : decode cX3_tellDistancesTo 29 = .ok (.istore_n 3, 1) := by decide +kernel
theorem dX3_tellDistancesTo_30 : decode cX3_tellDistancesTo 30 = .ok (.iload_n 3, 1) := by decide +kernel
theorem dX3_tellDistancesTo_31 : decode cX3_tellDistancesTo 31 = .ok (.aload_n 0, 1) := by decide +kernel
theorem dX3_tellDistancesTo_32 : decode cX3_tellDistancesTo 32 = .ok (.getfield 19, 3) := by decide +kernel
theorem dX3_tellDistancesTo_35 : decode cX3_tellDistancesTo 35 = .ok (.getfield 201, 3) := by decide +kernel
theorem dX3_tellDistancesTo_38 : decode cX3_tellDistancesTo 38 = .ok (.if_icmp .ge 38, 3) := by decide +kernel
theorem dX3_tellDistancesTo_41 : decode cX3_tellDistancesTo 41 = .ok (.aload_n 0, 1) := by decide +kernel
theorem dX3_tellDistancesTo_42 : decode cX3_tellDistancesTo 42 = .ok (.getfield 33, 3) := by decide +kernel
theorem dX3_tellDistancesTo_45 : decode cX3_tellDistancesTo 45 = .ok (.iload_n 3, 1) := by decide +kernel
theorem dX3_tellDistancesTo_46 : decode cX3_tellDistancesTo 46 = .ok (.iaload, 1) := by decide +kernel
theorem dX3_tellDistancesTo_47 : decode cX3_tellDistancesTo 47 = .ok (.iconst (-1), 1) := by decide +kernel
theorem dX3_tellDistancesTo_48 : decode cX3_tellDistancesTo 48 = .ok (.if_icmp .ne 22, 3) := by decide +kernel
theorem dX3_tellDistancesTo_51 : decode cX3_tellDistancesTo 51 = .ok (.aload_n 0, 1) := by decide +kernel
theorem dX3_tellDistancesTo_52 : decode cX3_tellDistancesTo 52 = .ok (.iload_n 3, 1) := by decide +kernel
theorem dX3_tellDistancesTo_53 : decode cX3_tellDistancesTo 53 = .ok (.iload_n 2, 1) := by decide +kernel
theorem dX3_tellDistancesTo_54 : decode cX3_tellDistancesTo 54 = .ok (.iconst 1, 1) := by decide +kernel
theorem dX3_tellDistancesTo_55 : decode cX3_tellDistancesTo 55 = .ok (.isub, 1) := by decide +kernel
theorem dX3_tellDistancesTo_56 : decode cX3_tellDistancesTo 56 = .ok (.invokevirtual 284, 3) := by decide +kernel
theorem dX3_tellDistancesTo_59 : decode cX3_tellDistancesTo 59 = .ok (.iconst (-1), 1) := by decide +kernel
theorem dX3_tellDistancesTo_60 : decode cX3_tellDistancesTo 60 = .ok (.if_icmp .eq 10, 3) := by decide +kernel
theorem dX3_tellDistancesTo_63 : decode cX3_tellDistancesTo 63 = .ok (.aload_n 0, 1) := by decide +kernel
theorem dX3_tellDistancesTo_64 : decode cX3_tellDistancesTo 64 = .ok (.getfield 33, 3) := by decide +kernel
theorem dX3_tellDistancesTo_67 : decode cX3_tellDistancesTo 67 = .ok (.iload_n 3, 1) := by decide +kernel
theorem dX3_tellDistancesTo_68 : decode cX3_tellDistancesTo 68 = .ok (.iload_n 2, 1) := by decide +kernel
theorem dX3_tellDistancesTo_69 : decode cX3_tellDistancesTo 69 = .ok (.iastore, 1) := by decide +kernel
theorem dX3_tellDistancesTo_70 : decode cX3_tellDistancesTo 70 = .ok (.iinc 3 1, 3) := by decide +kernel
theorem dX3_tellDistancesTo_73 : decode cX3_tellDistancesTo 73 = .ok (.goto (-43), 3) := by decide +kernel
theorem dX3_tellDistancesTo_76 : decode cX3_tellDistancesTo 76 = .ok (.iinc 2 1, 3) := by decide +kernel
theorem dX3_tellDistancesTo_79 : decode cX3_tellDistancesTo 79 = .ok (.goto (-62), 3) := by decide +kernel
theorem dX3_tellDistancesTo_82 : decode cX3_tellDistancesTo 82 = .ok (.return_, 1) := by decide +kernel
theorem dX3_stepTo_0 : decode cX3_stepTo 0 = .ok (.iconst 0, 1) := by decide +kernel
theorem dX3_stepTo_1 : decode cX3_stepTo 1 = .ok (.istore_n 3, 1) := by decide +kernel
theorem dX3_stepTo_2 : decode cX3_stepTo 2 = .ok (.iload_n 3, 1) := by decide +kernel
theorem dX3_stepTo_3 : decode cX3_stepTo 3 = .ok (.aload_n 0, 1) := by decide +kernel
theorem dX3_stepTo_4 : decode cX3_stepTo 4 = .ok (.getfield 19, 3) := by decide +kernel
theorem dX3_stepTo_7 : decode cX3_stepTo 7 = .ok (.getfield 73, 3) := by decide +kernel
theorem dX3_stepTo_10 : decode cX3_stepTo 10 = .ok (.if_icmp .ge 29, 3) := by decide +kernel
theorem dX3_stepTo_13 : decode cX3_stepTo 13 = .ok (.aload_n 0, 1) := by decide +kernel
theorem dX3_stepTo_14 : decode cX3_stepTo 14 = .ok (.getfield 33, 3) := by decide +kernel
theorem dX3_stepTo_17 : decode cX3_stepTo 17 = .ok (.aload_n 0, 1) := by decide +kernel
theorem dX3_stepTo_18 : decode cX3_stepTo 18 = .ok (.getfield 19, 3) := by decide +kernel
theorem dX3_stepTo_21 : decode cX3_stepTo 21 = .ok (.iload_n 3, 1) := by decide +kernel
theorem dX3_stepTo_22 : decode cX3_stepTo 22 = .ok (.iload_n 1, 1) := by decide +kernel
theorem dX3_stepTo_23 : decode cX3_stepTo 23 = .ok (.invokevirtual 114, 3) := by decide +kernel
theorem dX3_stepTo_26 : decode cX3_stepTo 26 = .ok (.iaload, 1) := by decide +kernel
theorem dX3_stepTo_27 : decode cX3_stepTo 27 = .ok (.iload_n 2, 1) := by decide +kernel
theorem dX3_stepTo_28 : decode cX3_stepTo 28 = .ok (.if_icmp .ne 5, 3) := by decide +kernel
theorem dX3_stepTo_31 : decode cX3_stepTo 31 = .ok (.iload_n 3, 1) := by decide +kernel
theorem dX3_stepTo_32 : decode cX3_stepTo 32 = .ok (.ireturn, 1) := by decide +kernel
theorem dX3_stepTo_33 : decode cX3_stepTo 33 = .ok (.iinc 3 1, 3) := by decide +kernel
theorem dX3_stepTo_36 : decode cX3_stepTo 36 = .ok (.goto (-34), 3) := by decide +kernel
theorem dX3_stepTo_39 : decode cX3_stepTo 39 = .ok (.iconst (-1), 1) := by decide +kernel
theorem dX3_stepTo_40 : decode cX3_stepTo 40 = .ok (.ireturn, 1) := by decide +kernel
theorem dX3_firstStepNearer_0 : decode cX3_firstStepNearer 0 = .ok (.aload_n 0, 1) := by decide +kernel
theorem dX3_firstStepNearer_1 : decode cX3_firstStepNearer 1 = .ok (.getfield 33, 3) := by decide +kernel
theorem dX3_firstStepNearer_4 : decode cX3_firstStepNearer 4 = .ok (.iload_n 1, 1) := by decide +kernel
theorem dX3_firstStepNearer_5 : decode cX3_firstStepNearer 5 = .ok (.iaload, 1) := by decide +kernel
theorem dX3_firstStepNearer_6 : decode cX3_firstStepNearer 6 = .ok (.ifCond .le 19, 3) := by decide +kernel
theorem dX3_firstStepNearer_9 : decode cX3_firstStepNearer 9 = .ok (.aload_n 0, 1) := by decide +kernel
theorem dX3_firstStepNearer_10 : decode cX3_firstStepNearer 10 = .ok (.iload_n 1, 1) := by decide +kernel
theorem dX3_firstStepNearer_11 : decode cX3_firstStepNearer 11 = .ok (.aload_n 0, 1) := by decide +kernel
theorem dX3_firstStepNearer_12 : decode cX3_firstStepNearer 12 = .ok (.getfield 33, 3) := by decide +kernel
theorem dX3_firstStepNearer_15 : decode cX3_firstStepNearer 15 = .ok (.iload_n 1, 1) := by decide +kernel
theorem dX3_firstStepNearer_16 : decode cX3_firstStepNearer 16 = .ok (.iaload, 1) := by decide +kernel
theorem dX3_firstStepNearer_17 : decode cX3_firstStepNearer 17 = .ok (.iconst 1, 1) := by decide +kernel
theorem dX3_firstStepNearer_18 : decode cX3_firstStepNearer 18 = .ok (.isub, 1) := by decide +kernel
theorem dX3_firstStepNearer_19 : decode cX3_firstStepNearer 19 = .ok (.invokevirtual 284, 3) := by decide +kernel
theorem dX3_firstStepNearer_22 : decode cX3_firstStepNearer 22 = .ok (.goto 4, 3) := by decide +kernel
theorem dX3_firstStepNearer_25 : decode cX3_firstStepNearer 25 = .ok (.iconst (-1), 1) := by decide +kernel
theorem dX3_firstStepNearer_26 : decode cX3_firstStepNearer 26 = .ok (.ireturn, 1) := by decide +kernel
theorem dX3_findPathHome_0 : decode cX3_findPathHome 0 = .ok (.iconst 1, 1) := by decide +kernel
theorem dX3_findPathHome_1 : decode cX3_findPathHome 1 = .ok (.istore_n 2, 1) := by decide +kernel
theorem dX3_findPathHome_2 : decode cX3_findPathHome 2 = .ok (.iconst 0, 1) := by decide +kernel
theorem dX3_findPathHome_3 : decode cX3_findPathHome 3 = .ok (.istore_n 3, 1) := by decide +kernel
theorem dX3_findPathHome_4 : decode cX3_findPathHome 4 = .ok (.iload_n 3, 1) := by decide +kernel
theorem dX3_findPathHome_5 : decode cX3_findPathHome 5 = .ok (.iload_n 1, 1) := by decide +kernel
theorem dX3_findPathHome_6 : decode cX3_findPathHome 6 = .ok (.if_icmp .ge 26, 3) := by decide +kernel
theorem dX3_findPathHome_9 : decode cX3_findPathHome 9 = .ok (.aload_n 0, 1) := by decide +kernel
theorem dX3_findPathHome_10 : decode cX3_findPathHome 10 = .ok (.getfield 40, 3) := by decide +kernel
theorem dX3_findPathHome_13 : decode cX3_findPathHome 13 = .ok (.iload_n 3, 1) := by decide +kernel
theorem dX3_findPathHome_14 : decode cX3_findPathHome 14 = .ok (.iconst 0, 1) := by decide +kernel
theorem dX3_findPathHome_15 : decode cX3_findPathHome 15 = .ok (.iastore, 1) := by decide +kernel
theorem dX3_findPathHome_16 : decode cX3_findPathHome 16 = .ok (.iload_n 2, 1) := by decide +kernel
theorem dX3_findPathHome_17 : decode cX3_findPathHome 17 = .ok (.aload_n 0, 1) := by decide +kernel
theorem dX3_findPathHome_18 : decode cX3_findPathHome 18 = .ok (.getfield 19, 3) := by decide +kernel
theorem dX3_findPathHome_21 : decode cX3_findPathHome 21 = .ok (.getfield 73, 3) := by decide +kernel
theorem dX3_findPathHome_24 : decode cX3_findPathHome 24 = .ok (.imul, 1) := by decide +kernel
theorem dX3_findPathHome_25 : decode cX3_findPathHome 25 = .ok (.istore_n 2, 1) := by decide +kernel
theorem dX3_findPathHome_26 : decode cX3_findPathHome 26 = .ok (.iinc 3 1, 3) := by decide +kernel
theorem dX3_findPathHome_29 : decode cX3_findPathHome 29 = .ok (.goto (-25), 3) := by decide +kernel
theorem dX3_findPathHome_32 : decode cX3_findPathHome 32 = .ok (.iconst 0, 1) := by decide +kernel
theorem dX3_findPathHome_33 : decode cX3_findPathHome 33 = .ok (.istore_n 3, 1) := by decide +kernel
theorem dX3_findPathHome_34 : decode cX3_findPathHome 34 = .ok (.iload_n 3, 1) := by decide +kernel
theorem dX3_findPathHome_35 : decode cX3_findPathHome 35 = .ok (.iload_n 2, 1) := by decide +kernel
theorem dX3_findPathHome_36 : decode cX3_findPathHome 36 = .ok (.if_icmp .ge 24, 3) := by decide +kernel
theorem dX3_findPathHome_39 : decode cX3_findPathHome 39 = .ok (.aload_n 0, 1) := by decide +kernel
theorem dX3_findPathHome_40 : decode cX3_findPathHome 40 = .ok (.iload_n 1, 1) := by decide +kernel
theorem dX3_findPathHome_41 : decode cX3_findPathHome 41 = .ok (.invokevirtual 287, 3) := by decide +kernel
theorem dX3_findPathHome_44 : decode cX3_findPathHome 44 = .ok (.ifCond .eq 5, 3) := by decide +kernel
theorem dX3_findPathHome_47 : decode cX3_findPathHome 47 = .ok (.iconst 1, 1) := by decide +kernel
theorem dX3_findPathHome_48 : decode cX3_findPathHome 48 = .ok (.ireturn, 1) := by decide +kernel
theorem dX3_findPathHome_49 : decode cX3_findPathHome 49 = .ok (.aload_n 0, 1) := by decide +kernel
theorem dX3_findPathHome_50 : decode cX3_findPathHome 50 = .ok (.iload_n 1, 1) := by decide +kernel
theorem dX3_findPathHome_51 : decode cX3_findPathHome 51 = .ok (.invokevirtual 290, 3) := by decide +kernel
theorem dX3_findPathHome_54 : decode cX3_findPathHome 54 = .ok (.iinc 3 1, 3) := by decide +kernel
theorem dX3_findPathHome_57 : decode cX3_findPathHome 57 = .ok (.goto (-23), 3) := by decide +kernel
theorem dX3_findPathHome_60 : decode cX3_findPathHome 60 = .ok (.iconst 0, 1) := by decide +kernel
theorem dX3_findPathHome_61 : decode cX3_findPathHome 61 = .ok (.ireturn, 1) := by decide +kernel
theorem dX3_nextPath_0 : decode cX3_nextPath 0 = .ok (.iload_n 1, 1) := by decide +kernel
theorem dX3_nextPath_1 : decode cX3_nextPath 1 = .ok (.iconst 1, 1) := by decide +kernel
theorem dX3_nextPath_2 : decode cX3_nextPath 2 = .ok (.isub, 1) := by decide +kernel
theorem dX3_nextPath_3 : decode cX3_nextPath 3 = .ok (.istore_n 2, 1) := by decide +kernel
theorem dX3_nextPath_4 : decode cX3_nextPath 4 = .ok (.iload_n 2, 1) := by decide +kernel
theorem dX3_nextPath_5 : decode cX3_nextPath 5 = .ok (.ifCond .lt 43, 3) := by decide +kernel
theorem dX3_nextPath_8 : decode cX3_nextPath 8 = .ok (.aload_n 0, 1) := by decide +kernel
theorem dX3_nextPath_9 : decode cX3_nextPath 9 = .ok (.getfield 40, 3) := by decide +kernel
theorem dX3_nextPath_12 : decode cX3_nextPath 12 = .ok (.iload_n 2, 1) := by decide +kernel
theorem dX3_nextPath_13 : decode cX3_nextPath 13 = .ok (.dup2, 1) := by decide +kernel
theorem dX3_nextPath_14 : decode cX3_nextPath 14 = .ok (.iaload, 1) := by decide +kernel
theorem dX3_nextPath_15 : decode cX3_nextPath 15 = .ok (.iconst 1, 1) := by decide +kernel
theorem dX3_nextPath_16 : decode cX3_nextPath 16 = .ok (.iadd, 1) := by decide +kernel
theorem dX3_nextPath_17 : decode cX3_nextPath 17 = .ok (.iastore, 1) := by decide +kernel
theorem dX3_nextPath_18 : decode cX3_nextPath 18 = .ok (.aload_n 0, 1) := by decide +kernel
theorem dX3_nextPath_19 : decode cX3_nextPath 19 = .ok (.getfield 40, 3) := by decide +kernel
theorem dX3_nextPath_22 : decode cX3_nextPath 22 = .ok (.iload_n 2, 1) := by decide +kernel
theorem dX3_nextPath_23 : decode cX3_nextPath 23 = .ok (.iaload, 1) := by decide +kernel
theorem dX3_nextPath_24 : decode cX3_nextPath 24 = .ok (.aload_n 0, 1) := by decide +kernel
theorem dX3_nextPath_25 : decode cX3_nextPath 25 = .ok (.getfield 19, 3) := by decide +kernel
theorem dX3_nextPath_28 : decode cX3_nextPath 28 = .ok (.getfield 73, 3) := by decide +kernel
theorem dX3_nextPath_31 : decode cX3_nextPath 31 = .ok (.if_icmp .ge 4, 3) := by decide +kernel
theorem dX3_nextPath_34 : decode cX3_nextPath 34 = .ok (.return_, 1) := by decide +kernel
theorem dX3_nextPath_35 : decode cX3_nextPath 35 = .ok (.aload_n 0, 1) := by decide +kernel
theorem dX3_nextPath_36 : decode cX3_nextPath 36 = .ok (.getfield 40, 3) := by decide +kernel
theorem dX3_nextPath_39 : decode cX3_nextPath 39 = .ok (.iload_n 2, 1) := by decide +kernel
theorem dX3_nextPath_40 : decode cX3_nextPath 40 = .ok (.iconst 0, 1) := by decide +kernel
theorem dX3_nextPath_41 : decode cX3_nextPath 41 = .ok (.iastore, 1) := by decide +kernel
theorem dX3_nextPath_42 : decode cX3_nextPath 42 = .ok (.iinc 2 (-1), 3) := by decide +kernel
theorem dX3_nextPath_45 : decode cX3_nextPath 45 = .ok (.goto (-41), 3) := by decide +kernel
theorem dX3_nextPath_48 : decode cX3_nextPath 48 = .ok (.return_, 1) := by decide +kernel
theorem dX3_pathLeadsHome_0 : decode cX3_pathLeadsHome 0 = .ok (.iconst 0, 1) := by decide +kernel
theorem dX3_pathLeadsHome_1 : decode cX3_pathLeadsHome 1 = .ok (.istore_n 2, 1) := by decide +kernel
theorem dX3_pathLeadsHome_2 : decode cX3_pathLeadsHome 2 = .ok (.iload_n 2, 1) := by decide +kernel
theorem dX3_pathLeadsHome_3 : decode cX3_pathLeadsHome 3 = .ok (.aload_n 0, 1) := by decide +kernel
theorem dX3_pathLeadsHome_4 : decode cX3_pathLeadsHome 4 = .ok (.getfield 19, 3) := by decide +kernel
theorem dX3_pathLeadsHome_7 : decode cX3_pathLeadsHome 7 = .ok (.getfield 201, 3) := by decide +kernel
theorem dX3_pathLeadsHome_10 : decode cX3_pathLeadsHome 10 = .ok (.if_icmp .ge 57, 3) := by decide +kernel
theorem dX3_pathLeadsHome_13 : decode cX3_pathLeadsHome 13 = .ok (.iload_n 2, 1) := by decide +kernel
theorem dX3_pathLeadsHome_14 : decode cX3_pathLeadsHome 14 = .ok (.istore_n 3, 1) := by decide +kernel
theorem dX3_pathLeadsHome_15 : decode cX3_pathLeadsHome 15 = .ok (.iconst 0, 1) := by decide +kernel
theorem dX3_pathLeadsHome_16 : decode cX3_pathLeadsHome 16 = .ok (.istore 4, 2) := by decide +kernel
theorem dX3_pathLeadsHome_18 : decode cX3_pathLeadsHome 18 = .ok (.iload 4, 2) := by decide +kernel
theorem dX3_pathLeadsHome_20 : decode cX3_pathLeadsHome 20 = .ok (.iload_n 1, 1) := by decide +kernel
theorem dX3_pathLeadsHome_21 : decode cX3_pathLeadsHome 21 = .ok (.if_icmp .ge 25, 3) := by decide +kernel
theorem dX3_pathLeadsHome_24 : decode cX3_pathLeadsHome 24 = .ok (.aload_n 0, 1) := by decide +kernel
theorem dX3_pathLeadsHome_25 : decode cX3_pathLeadsHome 25 = .ok (.getfield 19, 3) := by decide +kernel
theorem dX3_pathLeadsHome_28 : decode cX3_pathLeadsHome 28 = .ok (.aload_n 0, 1) := by decide +kernel
theorem dX3_pathLeadsHome_29 : decode cX3_pathLeadsHome 29 = .ok (.getfield 40, 3) := by decide +kernel
theorem dX3_pathLeadsHome_32 : decode cX3_pathLeadsHome 32 = .ok (.iload 4, 2) := by decide +kernel
theorem dX3_pathLeadsHome_34 : decode cX3_pathLeadsHome 34 = .ok (.iaload, 1) := by decide +kernel
theorem dX3_pathLeadsHome_35 : decode cX3_pathLeadsHome 35 = .ok (.iload_n 3, 1) := by decide +kernel
theorem dX3_pathLeadsHome_36 : decode cX3_pathLeadsHome 36 = .ok (.invokevirtual 114, 3) := by decide +kernel
theorem dX3_pathLeadsHome_39 : decode cX3_pathLeadsHome 39 = .ok (.istore_n 3, 1) := by decide +kernel
theorem dX3_pathLeadsHome_40 : decode cX3_pathLeadsHome 40 = .ok (.iinc 4 1, 3) := by decide +kernel
theorem dX3_pathLeadsHome_43 : decode cX3_pathLeadsHome 43 = .ok (.goto (-25), 3) := by decide +kernel
theorem dX3_pathLeadsHome_46 : decode cX3_pathLeadsHome 46 = .ok (.iload_n 3, 1) := by decide +kernel
theorem dX3_pathLeadsHome_47 : decode cX3_pathLeadsHome 47 = .ok (.aload_n 0, 1) := by decide +kernel
theorem dX3_pathLeadsHome_48 : decode cX3_pathLeadsHome 48 = .ok (.getfield 19, 3) := by decide +kernel
theorem dX3_pathLeadsHome_51 : decode cX3_pathLeadsHome 51 = .ok (.getfield 111, 3) := by decide +kernel
theorem dX3_pathLeadsHome_54 : decode cX3_pathLeadsHome 54 = .ok (.iload_n 2, 1) := by decide +kernel
theorem dX3_pathLeadsHome_55 : decode cX3_pathLeadsHome 55 = .ok (.iaload, 1) := by decide +kernel
theorem dX3_pathLeadsHome_56 : decode cX3_pathLeadsHome 56 = .ok (.if_icmp .eq 5, 3) := by decide +kernel
theorem dX3_pathLeadsHome_59 : decode cX3_pathLeadsHome 59 = .ok (.iconst 0, 1) := by decide +kernel
theorem dX3_pathLeadsHome_60 : decode cX3_pathLeadsHome 60 = .ok (.ireturn, 1) := by decide +kernel
theorem dX3_pathLeadsHome_61 : decode cX3_pathLeadsHome 61 = .ok (.iinc 2 1, 3) := by decide +kernel
theorem dX3_pathLeadsHome_64 : decode cX3_pathLeadsHome 64 = .ok (.goto (-62), 3) := by decide +kernel
theorem dX3_pathLeadsHome_67 : decode cX3_pathLeadsHome 67 = .ok (.iconst 1, 1) := by decide +kernel
theorem dX3_pathLeadsHome_68 : decode cX3_pathLeadsHome 68 = .ok (.ireturn, 1) := by decide +kernel
theorem dX3_pathInDigits_0 : decode cX3_pathInDigits 0 = .ok (.iconst 0, 1) := by decide +kernel
theorem dX3_pathInDigits_1 : decode cX3_pathInDigits 1 = .ok (.istore_n 2, 1) := by decide +kernel
theorem dX3_pathInDigits_2 : decode cX3_pathInDigits 2 = .ok (.iconst 0, 1) := by decide +kernel
theorem dX3_pathInDigits_3 : decode cX3_pathInDigits 3 = .ok (.istore_n 3, 1) := by decide +kernel
theorem dX3_pathInDigits_4 : decode cX3_pathInDigits 4 = .ok (.iload_n 3, 1) := by decide +kernel
theorem dX3_pathInDigits_5 : decode cX3_pathInDigits 5 = .ok (.iload_n 1, 1) := by decide +kernel
theorem dX3_pathInDigits_6 : decode cX3_pathInDigits 6 = .ok (.if_icmp .ge 23, 3) := by decide +kernel
theorem dX3_pathInDigits_9 : decode cX3_pathInDigits 9 = .ok (.bipush 10, 2) := by decide +kernel
theorem dX3_pathInDigits_11 : decode cX3_pathInDigits 11 = .ok (.iload_n 2, 1) := by decide +kernel
theorem dX3_pathInDigits_12 : decode cX3_pathInDigits 12 = .ok (.imul, 1) := by decide +kernel
theorem dX3_pathInDigits_13 : decode cX3_pathInDigits 13 = .ok (.aload_n 0, 1) := by decide +kernel
theorem dX3_pathInDigits_14 : decode cX3_pathInDigits 14 = .ok (.getfield 40, 3) := by decide +kernel
theorem dX3_pathInDigits_17 : decode cX3_pathInDigits 17 = .ok (.iload_n 3, 1) := by decide +kernel
theorem dX3_pathInDigits_18 : decode cX3_pathInDigits 18 = .ok (.iaload, 1) := by decide +kernel
theorem dX3_pathInDigits_19 : decode cX3_pathInDigits 19 = .ok (.iadd, 1) := by decide +kernel
theorem dX3_pathInDigits_20 : decode cX3_pathInDigits 20 = .ok (.iconst 1, 1) := by decide +kernel
theorem dX3_pathInDigits_21 : decode cX3_pathInDigits 21 = .ok (.iadd, 1) := by decide +kernel
theorem dX3_pathInDigits_22 : decode cX3_pathInDigits 22 = .ok (.istore_n 2, 1) := by decide +kernel
theorem dX3_pathInDigits_23 : decode cX3_pathInDigits 23 = .ok (.iinc 3 1, 3) := by decide +kernel
theorem dX3_pathInDigits_26 : decode cX3_pathInDigits 26 = .ok (.goto (-22), 3) := by decide +kernel
theorem dX3_pathInDigits_29 : decode cX3_pathInDigits 29 = .ok (.iload_n 2, 1) := by decide +kernel
theorem dX3_pathInDigits_30 : decode cX3_pathInDigits 30 = .ok (.ireturn, 1) := by decide +kernel
theorem dX3_tellDrawsFrom_0 : decode cX3_tellDrawsFrom 0 = .ok (.aload_n 0, 1) := by decide +kernel
theorem dX3_tellDrawsFrom_1 : decode cX3_tellDrawsFrom 1 = .ok (.getfield 33, 3) := by decide +kernel
theorem dX3_tellDrawsFrom_4 : decode cX3_tellDrawsFrom 4 = .ok (.iconst 0, 1) := by decide +kernel
theorem dX3_tellDrawsFrom_5 : decode cX3_tellDrawsFrom 5 = .ok (.invokestatic 270, 3) := by decide +kernel
theorem dX3_tellDrawsFrom_8 : decode cX3_tellDrawsFrom 8 = .ok (.aload_n 0, 1) := by decide +kernel
theorem dX3_tellDrawsFrom_9 : decode cX3_tellDrawsFrom 9 = .ok (.getfield 33, 3) := by decide +kernel
theorem dX3_tellDrawsFrom_12 : decode cX3_tellDrawsFrom 12 = .ok (.iload_n 1, 1) := by decide +kernel
