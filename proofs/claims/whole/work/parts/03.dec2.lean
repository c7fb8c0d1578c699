theorem dX5_fewest_11 : decode cX5_fewest 11 = .ok (.ireturn, 1) := by decide +kernel
theorem dX5_fewest_12 : decode cX5_fewest 12 = .ok (.iconst 1, 1) := by decide +kernel
theorem dX5_fewest_13 : decode cX5_fewest 13 = .ok (.istore_n 2, 1) := by decide +kernel
theorem dX5_fewest_14 : decode cX5_fewest 14 = .ok (.iload_n 2, 1) := by decide +kernel
theorem dX5_fewest_15 : decode cX5_fewest 15 = .ok (.iconst 3, 1) := by decide +kernel
theorem dX5_fewest_16 : decode cX5_fewest 16 = .ok (.if_icmp .gt 20, 3) := by decide +kernel
theorem dX5_fewest_19 : decode cX5_fewest 19 = .ok (.aload_n 0, 1) := by decide +kernel
theorem dX5_fewest_20 : decode cX5_fewest 20 = .ok (.iload_n 1, 1) := by decide +kernel
theorem dX5_fewest_21 : decode cX5_fewest 21 = .ok (.iload_n 2, 1) := by decide +kernel
theorem dX5_fewest_22 : decode cX5_fewest 22 = .ok (.invokevirtual 164, 3) := by decide +kernel
theorem dX5_fewest_25 : decode cX5_fewest 25 = .ok (.ifCond .ne 5, 3) := by decide +kernel
theorem dX5_fewest_28 : decode cX5_fewest 28 = .ok (.iload_n 2, 1) := by decide +kernel
theorem dX5_fewest_29 : decode cX5_fewest 29 = .ok (.ireturn, 1) := by decide +kernel
theorem dX5_fewest_30 : decode cX5_fewest 30 = .ok (.iinc 2 1, 3) := by decide +kernel
theorem dX5_fewest_33 : decode cX5_fewest 33 = .ok (.goto (-19), 3) := by decide +kernel
theorem dX5_fewest_36 : decode cX5_fewest 36 = .ok (.bipush (-9), 2) := by decide +kernel
theorem dX5_fewest_38 : decode cX5_fewest 38 = .ok (.ireturn, 1) := by decide +kernel
theorem dX5_share_0 : decode cX5_share 0 = .ok (.iload_n 1, 1) := by decide +kernel
theorem dX5_share_1 : decode cX5_share 1 = .ok (.iconst 0, 1) := by decide +kernel
theorem dX5_share_2 : decode cX5_share 2 = .ok (.bipush 10, 2) := by decide +kernel
theorem dX5_share_4 : decode cX5_share 4 = .ok (.invokestatic 52, 3) := by decide +kernel
theorem dX5_share_7 : decode cX5_share 7 = .ok (.ifCond .eq 22, 3) := by decide +kernel
theorem dX5_share_10 : decode cX5_share 10 = .ok (.iload_n 2, 1) := by decide +kernel
theorem dX5_share_11 : decode cX5_share 11 = .ok (.iconst 0, 1) := by decide +kernel
theorem dX5_share_12 : decode cX5_share 12 = .ok (.bipush 8, 2) := by decide +kernel
theorem dX5_share_14 : decode cX5_share 14 = .ok (.invokestatic 52, 3) := by decide +kernel
theorem dX5_share_17 : decode cX5_share 17 = .ok (.ifCond .eq 12, 3) := by decide +kernel
theorem dX5_share_20 : decode cX5_share 20 = .ok (.iload_n 3, 1) := by decide +kernel
theorem dX5_share_21 : decode cX5_share 21 = .ok (.iconst 0, 1) := by decide +kernel
theorem dX5_share_22 : decode cX5_share 22 = .ok (.iconst 1, 1) := by decide +kernel
theorem dX5_share_23 : decode cX5_share 23 = .ok (.invokestatic 52, 3) := by decide +kernel
theorem dX5_share_26 : decode cX5_share 26 = .ok (.ifCond .ne 7, 3) := by decide +kernel
theorem dX5_share_29 : decode cX5_share 29 = .ok (.ldc2_w 167, 3) := by decide +kernel
theorem dX5_share_32 : decode cX5_share 32 = .ok (.lreturn, 1) := by decide +kernel
theorem dX5_share_33 : decode cX5_share 33 = .ok (.iload_n 1, 1) := by decide +kernel
theorem dX5_share_34 : decode cX5_share 34 = .ok (.iload_n 2, 1) := by decide +kernel
theorem dX5_share_35 : decode cX5_share 35 = .ok (.invokestatic 169, 3) := by decide +kernel
theorem dX5_share_38 : decode cX5_share 38 = .ok (.lstore 4, 2) := by decide +kernel
theorem dX5_share_40 : decode cX5_share 40 = .ok (.ldc2_w 173, 3) := by decide +kernel
theorem dX5_share_43 : decode cX5_share 43 = .ok (.bipush 8, 2) := by decide +kernel
theorem dX5_share_45 : decode cX5_share 45 = .ok (.invokestatic 175, 3) := by decide +kernel
theorem dX5_share_48 : decode cX5_share 48 = .ok (.lstore 6, 2) := by decide +kernel
theorem dX5_share_50 : decode cX5_share 50 = .ok (.lload 4, 2) := by decide +kernel
theorem dX5_share_52 : decode cX5_share 52 = .ok (.lload 6, 2) := by decide +kernel
theorem dX5_share_54 : decode cX5_share 54 = .ok (.invokestatic 179, 3) := by decide +kernel
theorem dX5_share_57 : decode cX5_share 57 = .ok (.lstore 8, 2) := by decide +kernel
theorem dX5_share_59 : decode cX5_share 59 = .ok (.lload 8, 2) := by decide +kernel
theorem dX5_share_61 : decode cX5_share 61 = .ok (.lconst 0, 1) := by decide +kernel
theorem dX5_share_62 : decode cX5_share 62 = .ok (.lcmp, 1) := by decide +kernel
theorem dX5_share_63 : decode cX5_share 63 = .ok (.ifCond .ne 7, 3) := by decide +kernel
theorem dX5_share_66 : decode cX5_share 66 = .ok (.ldc2_w 167, 3) := by decide +kernel
theorem dX5_share_69 : decode cX5_share 69 = .ok (.lreturn, 1) := by decide +kernel
theorem dX5_share_70 : decode cX5_share 70 = .ok (.iload_n 3, 1) := by decide +kernel
theorem dX5_share_71 : decode cX5_share 71 = .ok (.ifCond .ne 11, 3) := by decide +kernel
theorem dX5_share_74 : decode cX5_share 74 = .ok (.lload 4, 2) := by decide +kernel
theorem dX5_share_76 : decode cX5_share 76 = .ok (.lload 8, 2) := by decide +kernel
theorem dX5_share_78 : decode cX5_share 78 = .ok (.ldiv, 1) := by decide +kernel
theorem dX5_share_79 : decode cX5_share 79 = .ok (.goto 8, 3) := by decide +kernel
theorem dX5_share_82 : decode cX5_share 82 = .ok (.lload 6, 2) := by decide +kernel
theorem dX5_share_84 : decode cX5_share 84 = .ok (.lload 8, 2) := by decide +kernel
theorem dX5_share_86 : decode cX5_share 86 = .ok (.ldiv, 1) := by decide +kernel
theorem dX5_share_87 : decode cX5_share 87 = .ok (.lreturn, 1) := by decide +kernel
theorem dX5_sees_0 : decode cX5_sees 0 = .ok (.iload_n 1, 1) := by decide +kernel
theorem dX5_sees_1 : decode cX5_sees 1 = .ok (.iconst 1, 1) := by decide +kernel
theorem dX5_sees_2 : decode cX5_sees 2 = .ok (.bipush 40, 2) := by decide +kernel
theorem dX5_sees_4 : decode cX5_sees 4 = .ok (.invokestatic 52, 3) := by decide +kernel
theorem dX5_sees_7 : decode cX5_sees 7 = .ok (.ifCond .eq 13, 3) := by decide +kernel
theorem dX5_sees_10 : decode cX5_sees 10 = .ok (.iload_n 2, 1) := by decide +kernel
theorem dX5_sees_11 : decode cX5_sees 11 = .ok (.iconst 0, 1) := by decide +kernel
theorem dX5_sees_12 : decode cX5_sees 12 = .ok (.bipush 64, 2) := by decide +kernel
theorem dX5_sees_14 : decode cX5_sees 14 = .ok (.invokestatic 52, 3) := by decide +kernel
theorem dX5_sees_17 : decode cX5_sees 17 = .ok (.ifCond .ne 5, 3) := by decide +kernel
theorem dX5_sees_20 : decode cX5_sees 20 = .ok (.iconst (-1), 1) := by decide +kernel
theorem dX5_sees_21 : decode cX5_sees 21 = .ok (.ireturn, 1) := by decide +kernel
theorem dX5_sees_22 : decode cX5_sees 22 = .ok (.aload_n 0, 1) := by decide +kernel
theorem dX5_sees_23 : decode cX5_sees 23 = .ok (.getfield 36, 3) := by decide +kernel
theorem dX5_sees_26 : decode cX5_sees 26 = .ok (.getfield 106, 3) := by decide +kernel
theorem dX5_sees_29 : decode cX5_sees 29 = .ok (.bipush 6, 2) := by decide +kernel
theorem dX5_sees_31 : decode cX5_sees 31 = .ok (.if_icmp .lt 6, 3) := by decide +kernel
theorem dX5_sees_34 : decode cX5_sees 34 = .ok (.bipush (-3), 2) := by decide +kernel
theorem dX5_sees_36 : decode cX5_sees 36 = .ok (.ireturn, 1) := by decide +kernel
theorem dX5_sees_37 : decode cX5_sees 37 = .ok (.aload_n 0, 1) := by decide +kernel
theorem dX5_sees_38 : decode cX5_sees 38 = .ok (.getfield 36, 3) := by decide +kernel
theorem dX5_sees_41 : decode cX5_sees 41 = .ok (.iload_n 1, 1) := by decide +kernel
theorem dX5_sees_42 : decode cX5_sees 42 = .ok (.iload_n 2, 1) := by decide +kernel
theorem dX5_sees_43 : decode cX5_sees 43 = .ok (.invokevirtual 183, 3) := by decide +kernel
theorem dX5_sees_46 : decode cX5_sees 46 = .ok (.aload_n 0, 1) := by decide +kernel
theorem dX5_sees_47 : decode cX5_sees 47 = .ok (.getfield 36, 3) := by decide +kernel
theorem dX5_sees_50 : decode cX5_sees 50 = .ok (.getfield 106, 3) := by decide +kernel
theorem dX5_sees_53 : decode cX5_sees 53 = .ok (.ireturn, 1) := by decide +kernel
theorem dX5_forget_0 : decode cX5_forget 0 = .ok (.aload_n 0, 1) := by decide +kernel
theorem dX5_forget_1 : decode cX5_forget 1 = .ok (.getfield 36, 3) := by decide +kernel
theorem dX5_forget_4 : decode cX5_forget 4 = .ok (.getfield 106, 3) := by decide +kernel
theorem dX5_forget_7 : decode cX5_forget 7 = .ok (.istore_n 1, 1) := by decide +kernel
theorem dX5_forget_8 : decode cX5_forget 8 = .ok (.aload_n 0, 1) := by decide +kernel
theorem dX5_forget_9 : decode cX5_forget 9 = .ok (.getfield 36, 3) := by decide +kernel
theorem dX5_forget_12 : decode cX5_forget 12 = .ok (.iconst 0, 1) := by decide +kernel
theorem dX5_forget_13 : decode cX5_forget 13 = .ok (.putfield 106, 3) := by decide +kernel
theorem dX5_forget_16 : decode cX5_forget 16 = .ok (.iload_n 1, 1) := by decide +kernel
theorem dX5_forget_17 : decode cX5_forget 17 = .ok (.ireturn, 1) := by decide +kernel
theorem dX5_unseen_0 : decode cX5_unseen 0 = .ok (.iconst 0, 1) := by decide +kernel
theorem dX5_unseen_1 : decode cX5_unseen 1 = .ok (.istore_n 1, 1) := by decide +kernel
theorem dX5_unseen_2 : decode cX5_unseen 2 = .ok (.iconst 0, 1) := by decide +kernel
theorem dX5_unseen_3 : decode cX5_unseen 3 = .ok (.istore_n 2, 1) := by decide +kernel
theorem dX5_unseen_4 : decode cX5_unseen 4 = .ok (.iload_n 2, 1) := by decide +kernel
theorem dX5_unseen_5 : decode cX5_unseen 5 = .ok (.bipush 8, 2) := by decide +kernel
theorem dX5_unseen_7 : decode cX5_unseen 7 = .ok (.if_icmp .ge 38, 3) := by decide +kernel
theorem dX5_unseen_10 : decode cX5_unseen 10 = .ok (.aload_n 0, 1) := by decide +kernel
theorem dX5_unseen_11 : decode cX5_unseen 11 = .ok (.getfield 12, 3) := by decide +kernel
theorem dX5_unseen_14 : decode cX5_unseen 14 = .ok (.iload_n 2, 1) := by decide +kernel
theorem dX5_unseen_15 : decode cX5_unseen 15 = .ok (.invokevirtual 77, 3) := by decide +kernel
theorem dX5_unseen_18 : decode cX5_unseen 18 = .ok (.istore_n 3, 1) := by decide +kernel
theorem dX5_unseen_19 : decode cX5_unseen 19 = .ok (.iload_n 3, 1) := by decide +kernel
theorem dX5_unseen_20 : decode cX5_unseen 20 = .ok (.bipush (-9), 2) := by decide +kernel
theorem dX5_unseen_22 : decode cX5_unseen 22 = .ok (.if_icmp .eq 17, 3) := by decide +kernel
theorem dX5_unseen_25 : decode cX5_unseen 25 = .ok (.aload_n 0, 1) := by decide +kernel
theorem dX5_unseen_26 : decode cX5_unseen 26 = .ok (.iload_n 3, 1) := by decide +kernel
theorem dX5_unseen_27 : decode cX5_unseen 27 = .ok (.invokevirtual 187, 3) := by decide +kernel
theorem dX5_unseen_30 : decode cX5_unseen 30 = .ok (.ifCond .eq 9, 3) := by decide +kernel
theorem dX5_unseen_33 : decode cX5_unseen 33 = .ok (.iload_n 1, 1) := by decide +kernel
theorem dX5_unseen_34 : decode cX5_unseen 34 = .ok (.iconst 1, 1) := by decide +kernel
theorem dX5_unseen_35 : decode cX5_unseen 35 = .ok (.iload_n 2, 1) := by decide +kernel
theorem dX5_unseen_36 : decode cX5_unseen 36 = .ok (.ishl, 1) := by decide +kernel
theorem dX5_unseen_37 : decode cX5_unseen 37 = .ok (.ior, 1) := by decide +kernel
theorem dX5_unseen_38 : decode cX5_unseen 38 = .ok (.istore_n 1, 1) := by decide +kernel
theorem dX5_unseen_39 : decode cX5_unseen 39 = .ok (.iinc 2 1, 3) := by decide +kernel
theorem dX5_unseen_42 : decode cX5_unseen 42 = .ok (.goto (-38), 3) := by decide +kernel
theorem dX5_unseen_45 : decode cX5_unseen 45 = .ok (.iload_n 1, 1) := by decide +kernel
theorem dX5_unseen_46 : decode cX5_unseen 46 = .ok (.ireturn, 1) := by decide +kernel
theorem dX5_keep_0 : decode cX5_keep 0 = .ok (.iload_n 1, 1) := by decide +kernel
theorem dX5_keep_1 : decode cX5_keep 1 = .ok (.iconst 0, 1) := by decide +kernel
theorem dX5_keep_2 : decode cX5_keep 2 = .ok (.iconst 1, 1) := by decide +kernel
theorem dX5_keep_3 : decode cX5_keep 3 = .ok (.invokestatic 52, 3) := by decide +kernel
theorem dX5_keep_6 : decode cX5_keep 6 = .ok (.ifCond .ne 5, 3) := by decide +kernel
theorem dX5_keep_9 : decode cX5_keep 9 = .ok (.iconst (-1), 1) := by decide +kernel
theorem dX5_keep_10 : decode cX5_keep 10 = .ok (.ireturn, 1) := by decide +kernel
theorem dX5_keep_11 : decode cX5_keep 11 = .ok (.aload_n 0, 1) := by decide +kernel
theorem dX5_keep_12 : decode cX5_keep 12 = .ok (.getfield 40, 3) := by decide +kernel
theorem dX5_keep_15 : decode cX5_keep 15 = .ok (.iload_n 1, 1) := by decide +kernel
theorem dX5_keep_16 : decode cX5_keep 16 = .ok (.aaload, 1) := by decide +kernel
theorem dX5_keep_17 : decode cX5_keep 17 = .ok (.aload_n 0, 1) := by decide +kernel
theorem dX5_keep_18 : decode cX5_keep 18 = .ok (.getfield 12, 3) := by decide +kernel
theorem dX5_keep_21 : decode cX5_keep 21 = .ok (.invokevirtual 153, 3) := by decide +kernel
theorem dX5_keep_24 : decode cX5_keep 24 = .ok (.aload_n 0, 1) := by decide +kernel
theorem dX5_keep_25 : decode cX5_keep 25 = .ok (.getfield 44, 3) := by decide +kernel
theorem dX5_keep_28 : decode cX5_keep 28 = .ok (.iload_n 1, 1) := by decide +kernel
theorem dX5_keep_29 : decode cX5_keep 29 = .ok (.iconst 1, 1) := by decide +kernel
theorem dX5_keep_30 : decode cX5_keep 30 = .ok (.bastore, 1) := by decide +kernel
theorem dX5_keep_31 : decode cX5_keep 31 = .ok (.aload_n 0, 1) := by decide +kernel
theorem dX5_keep_32 : decode cX5_keep 32 = .ok (.getfield 12, 3) := by decide +kernel
theorem dX5_keep_35 : decode cX5_keep 35 = .ok (.getfield 81, 3) := by decide +kernel
theorem dX5_keep_38 : decode cX5_keep 38 = .ok (.ireturn, 1) := by decide +kernel
theorem dX5_back_0 : decode cX5_back 0 = .ok (.iload_n 1, 1) := by decide +kernel
theorem dX5_back_1 : decode cX5_back 1 = .ok (.iconst 0, 1) := by decide +kernel
theorem dX5_back_2 : decode cX5_back 2 = .ok (.iconst 1, 1) := by decide +kernel
theorem dX5_back_3 : decode cX5_back 3 = .ok (.invokestatic 52, 3) := by decide +kernel
theorem dX5_back_6 : decode cX5_back 6 = .ok (.ifCond .ne 5, 3) := by decide +kernel
theorem dX5_back_9 : decode cX5_back 9 = .ok (.iconst (-1), 1) := by decide +kernel
theorem dX5_back_10 : decode cX5_back 10 = .ok (.ireturn, 1) := by decide +kernel
theorem dX5_back_11 : decode cX5_back 11 = .ok (.aload_n 0, 1) := by decide +kernel
theorem dX5_back_12 : decode cX5_back 12 = .ok (.getfield 44, 3) := by decide +kernel
theorem dX5_back_15 : decode cX5_back 15 = .ok (.iload_n 1, 1) := by decide +kernel
theorem dX5_back_16 : decode cX5_back 16 = .ok (.baload, 1) := by decide +kernel
theorem dX5_back_17 : decode cX5_back 17 = .ok (.ifCond .ne 6, 3) := by decide +kernel
theorem dX5_back_20 : decode cX5_back 20 = .ok (.bipush (-2), 2) := by decide +kernel
theorem dX5_back_22 : decode cX5_back 22 = .ok (.ireturn, 1) := by decide +kernel
theorem dX5_back_23 : decode cX5_back 23 = .ok (.aload_n 0, 1) := by decide +kernel
theorem dX5_back_24 : decode cX5_back 24 = .ok (.getfield 12, 3) := by decide +kernel
theorem dX5_back_27 : decode cX5_back 27 = .ok (.aload_n 0, 1) := by decide +kernel
theorem dX5_back_28 : decode cX5_back 28 = .ok (.getfield 40, 3) := by decide +kernel
theorem dX5_back_31 : decode cX5_back 31 = .ok (.iload_n 1, 1) := by decide +kernel
theorem dX5_back_32 : decode cX5_back 32 = .ok (.aaload, 1) := by decide +kernel
theorem dX5_back_33 : decode cX5_back 33 = .ok (.invokevirtual 153, 3) := by decide +kernel
theorem dX5_back_36 : decode cX5_back 36 = .ok (.aload_n 0, 1) := by decide +kernel
theorem dX5_back_37 : decode cX5_back 37 = .ok (.getfield 29, 3) := by decide +kernel
theorem dX5_back_40 : decode cX5_back 40 = .ok (.iconst 0, 1) := by decide +kernel
theorem dX5_back_41 : decode cX5_back 41 = .ok (.putfield 97, 3) := by decide +kernel
theorem dX5_back_44 : decode cX5_back 44 = .ok (.aload_n 0, 1) := by decide +kernel
theorem dX5_back_45 : decode cX5_back 45 = .ok (.getfield 12, 3) := by decide +kernel
theorem dX5_back_48 : decode cX5_back 48 = .ok (.getfield 81, 3) := by decide +kernel
theorem dX5_back_51 : decode cX5_back 51 = .ok (.ireturn, 1) := by decide +kernel
theorem dX5_count_0 : decode cX5_count 0 = .ok (.iload_n 1, 1) := by decide +kernel
theorem dX5_count_1 : decode cX5_count 1 = .ok (.tableswitch 169 0 11 #[63, 71, 79, 87, 95, 103, 113, 123, 133, 143, 153, 161], 63) := by decide +kernel
theorem dX5_count_64 : decode cX5_count 64 = .ok (.aload_n 0, 1) := by decide +kernel
theorem dX5_count_65 : decode cX5_count 65 = .ok (.getfield 12, 3) := by decide +kernel
theorem dX5_count_68 : decode cX5_count 68 = .ok (.getfield 56, 3) := by decide +kernel
theorem dX5_count_71 : decode cX5_count 71 = .ok (.ireturn, 1) := by decide +kernel
theorem dX5_count_72 : decode cX5_count 72 = .ok (.aload_n 0, 1) := by decide +kernel
theorem dX5_count_73 : decode cX5_count 73 = .ok (.getfield 12, 3) := by decide +kernel
theorem dX5_count_76 : decode cX5_count 76 = .ok (.getfield 60, 3) := by decide +kernel
theorem dX5_count_79 : decode cX5_count 79 = .ok (.ireturn, 1) := by decide +kernel
theorem dX5_count_80 : decode cX5_count 80 = .ok (.aload_n 0, 1) := by decide +kernel
theorem dX5_count_81 : decode cX5_count 81 = .ok (.getfield 12, 3) := by decide +kernel
theorem dX5_count_84 : decode cX5_count 84 = .ok (.getfield 63, 3) := by decide +kernel
theorem dX5_count_87 : decode cX5_count 87 = .ok (.ireturn, 1) := by decide +kernel
theorem dX5_count_88 : decode cX5_count 88 = .ok (.aload_n 0, 1) := by decide +kernel
theorem dX5_count_89 : decode cX5_count 89 = .ok (.getfield 12, 3) := by decide +kernel
theorem dX5_count_92 : decode cX5_count 92 = .ok (.getfield 88, 3) := by decide +kernel
theorem dX5_count_95 : decode cX5_count 95 = .ok (.ireturn, 1) := by decide +kernel
theorem dX5_count_96 : decode cX5_count 96 = .ok (.aload_n 0, 1) := by decide +kernel
theorem dX5_count_97 : decode cX5_count 97 = .ok (.getfield 12, 3) := by decide +kernel
theorem dX5_count_100 : decode cX5_count 100 = .ok (.getfield 81, 3) := by decide +kernel
theorem dX5_count_103 : decode cX5_count 103 = .ok (.ireturn, 1) := by decide +kernel
theorem dX5_count_104 : decode cX5_count 104 = .ok (.aload_n 0, 1) := by decide +kernel
theorem dX5_count_105 : decode cX5_count 105 = .ok (.getfield 12, 3) := by decide +kernel
theorem dX5_count_108 : decode cX5_count 108 = .ok (.getfield 91, 3) := by decide +kernel
theorem dX5_count_111 : decode cX5_count 111 = .ok (.iconst 0, 1) := by decide +kernel
theorem dX5_count_112 : decode cX5_count 112 = .ok (.iaload, 1) := by decide +kernel
theorem dX5_count_113 : decode cX5_count 113 = .ok (.ireturn, 1) := by decide +kernel
theorem dX5_count_114 : decode cX5_count 114 = .ok (.aload_n 0, 1) := by decide +kernel
theorem dX5_count_115 : decode cX5_count 115 = .ok (.getfield 12, 3) := by decide +kernel
theorem dX5_count_118 : decode cX5_count 118 = .ok (.getfield 91, 3) := by decide +kernel
theorem dX5_count_121 : decode cX5_count 121 = .ok (.iconst 1, 1) := by decide +kernel
theorem dX5_count_122 : decode cX5_count 122 = .ok (.iaload, 1) := by decide +kernel
theorem dX5_count_123 : decode cX5_count 123 = .ok (.ireturn, 1) := by decide +kernel
theorem dX5_count_124 : decode cX5_count 124 = .ok (.aload_n 0, 1) := by decide +kernel
theorem dX5_count_125 : decode cX5_count 125 = .ok (.getfield 12, 3) := by decide +kernel
theorem dX5_count_128 : decode cX5_count 128 = .ok (.getfield 91, 3) := by decide +kernel
theorem dX5_count_131 : decode cX5_count 131 = .ok (.iconst 2, 1) := by decide +kernel
theorem dX5_count_132 : decode cX5_count 132 = .ok (.iaload, 1) := by decide +kernel
theorem dX5_count_133 : decode cX5_count 133 = .ok (.ireturn, 1) := by decide +kernel
theorem dX5_count_134 : decode cX5_count 134 = .ok (.aload_n 0, 1) := by decide +kernel
theorem dX5_count_135 : decode cX5_count 135 = .ok (.getfield 12, 3) := by decide +kernel
theorem dX5_count_138 : decode cX5_count 138 = .ok (.getfield 91, 3) := by decide +kernel
theorem dX5_count_141 : decode cX5_count 141 = .ok (.iconst 3, 1) := by decide +kernel
theorem dX5_count_142 : decode cX5_count 142 = .ok (.iaload, 1) := by decide +kernel
theorem dX5_count_143 : decode cX5_count 143 = .ok (.ireturn, 1) := by decide +kernel
theorem dX5_count_144 : decode cX5_count 144 = .ok (.aload_n 0, 1) := by decide +kernel
theorem dX5_count_145 : decode cX5_count 145 = .ok (.getfield 12, 3) := by decide +kernel
theorem dX5_count_148 : decode cX5_count 148 = .ok (.getfield 91, 3) := by decide +kernel
theorem dX5_count_151 : decode cX5_count 151 = .ok (.iconst 4, 1) := by decide +kernel
theorem dX5_count_152 : decode cX5_count 152 = .ok (.iaload, 1) := by decide +kernel
theorem dX5_count_153 : decode cX5_count 153 = .ok (.ireturn, 1) := by decide +kernel
theorem dX5_count_154 : decode cX5_count 154 = .ok (.aload_n 0, 1) := by decide +kernel
theorem dX5_count_155 : decode cX5_count 155 = .ok (.getfield 36, 3) := by decide +kernel
theorem dX5_count_158 : decode cX5_count 158 = .ok (.getfield 106, 3) := by decide +kernel
theorem dX5_count_161 : decode cX5_count 161 = .ok (.ireturn, 1) := by decide +kernel
theorem dX5_count_162 : decode cX5_count 162 = .ok (.aload_n 0, 1) := by decide +kernel
theorem dX5_count_163 : decode cX5_count 163 = .ok (.getfield 29, 3) := by decide +kernel
theorem dX5_count_166 : decode cX5_count 166 = .ok (.getfield 97, 3) := by decide +kernel
theorem dX5_count_169 : decode cX5_count 169 = .ok (.ireturn, 1) := by decide +kernel
theorem dX5_count_170 : decode cX5_count 170 = .ok (.iconst (-1), 1) := by decide +kernel
theorem dX5_count_171 : decode cX5_count 171 = .ok (.ireturn, 1) := by decide +kernel
theorem dX5_isWithin_0 : decode cX5_isWithin 0 = .ok (.iload_n 0, 1) := by decide +kernel
theorem dX5_isWithin_1 : decode cX5_isWithin 1 = .ok (.iload_n 1, 1) := by decide +kernel
theorem dX5_isWithin_2 : decode cX5_isWithin 2 = .ok (.if_icmp .lt 12, 3) := by decide +kernel
theorem dX5_isWithin_5 : decode cX5_isWithin 5 = .ok (.iload_n 0, 1) := by decide +kernel
theorem dX5_isWithin_6 : decode cX5_isWithin 6 = .ok (.iload_n 2, 1) := by decide +kernel
theorem dX5_isWithin_7 : decode cX5_isWithin 7 = .ok (.if_icmp .gt 7, 3) := by decide +kernel
theorem dX5_isWithin_10 : decode cX5_isWithin 10 = .ok (.iconst 1, 1) := by decide +kernel
theorem dX5_isWithin_11 : decode cX5_isWithin 11 = .ok (.goto 4, 3) := by decide +kernel
theorem dX5_isWithin_14 : decode cX5_isWithin 14 = .ok (.iconst 0, 1) := by decide +kernel
theorem dX5_isWithin_15 : decode cX5_isWithin 15 = .ok (.ireturn, 1) := by decide +kernel
theorem dX5_isLine_0 : decode cX5_isLine 0 = .ok (.iload_n 0, 1) := by decide +kernel
theorem dX5_isLine_1 : decode cX5_isLine 1 = .ok (.iconst 0, 1) := by decide +kernel
theorem dX5_isLine_2 : decode cX5_isLine 2 = .ok (.bipush 7, 2) := by decide +kernel
theorem dX5_isLine_4 : decode cX5_isLine 4 = .ok (.invokestatic 52, 3) := by decide +kernel
theorem dX5_isLine_7 : decode cX5_isLine 7 = .ok (.ireturn, 1) := by decide +kernel
theorem dX5_isAddress_0 : decode cX5_isAddress 0 = .ok (.iload_n 0, 1) := by decide +kernel
theorem dX5_isAddress_1 : decode cX5_isAddress 1 = .ok (.iconst 0, 1) := by decide +kernel
theorem dX5_isAddress_2 : decode cX5_isAddress 2 = .ok (.bipush 7, 2) := by decide +kernel
theorem dX5_isAddress_4 : decode cX5_isAddress 4 = .ok (.invokestatic 52, 3) := by decide +kernel
theorem dX5_isAddress_7 : decode cX5_isAddress 7 = .ok (.ireturn, 1) := by decide +kernel
theorem dX5_enterNet_0 : decode cX5_enterNet 0 = .ok (.iconst 0, 1) := by decide +kernel
theorem dX5_enterNet_1 : decode cX5_enterNet 1 = .ok (.istore_n 1, 1) := by decide +kernel
theorem dX5_enterNet_2 : decode cX5_enterNet 2 = .ok (.iload_n 1, 1) := by decide +kernel
theorem dX5_enterNet_3 : decode cX5_enterNet 3 = .ok (.bipush 8, 2) := by decide +kernel
theorem dX5_enterNet_5 : decode cX5_enterNet 5 = .ok (.if_icmp .ge 34, 3) := by decide +kernel
theorem dX5_enterNet_8 : decode cX5_enterNet 8 = .ok (.aload_n 0, 1) := by decide +kernel
theorem dX5_enterNet_9 : decode cX5_enterNet 9 = .ok (.getfield 48, 3) := by decide +kernel
theorem dX5_enterNet_12 : decode cX5_enterNet 12 = .ok (.iload_n 1, 1) := by decide +kernel
theorem dX5_enterNet_13 : decode cX5_enterNet 13 = .ok (.aload_n 0, 1) := by decide +kernel
theorem dX5_enterNet_14 : decode cX5_enterNet 14 = .ok (.getfield 12, 3) := by decide +kernel
theorem dX5_enterNet_17 : decode cX5_enterNet 17 = .ok (.iload_n 1, 1) := by decide +kernel
theorem dX5_enterNet_18 : decode cX5_enterNet 18 = .ok (.invokevirtual 77, 3) := by decide +kernel
theorem dX5_enterNet_21 : decode cX5_enterNet 21 = .ok (.bipush (-9), 2) := by decide +kernel
theorem dX5_enterNet_23 : decode cX5_enterNet 23 = .ok (.if_icmp .ne 8, 3) := by decide +kernel
theorem dX5_enterNet_26 : decode cX5_enterNet 26 = .ok (.bipush (-9), 2) := by decide +kernel
theorem dX5_enterNet_28 : decode cX5_enterNet 28 = .ok (.goto 4, 3) := by decide +kernel
theorem dX5_enterNet_31 : decode cX5_enterNet 31 = .ok (.iload_n 1, 1) := by decide +kernel
theorem dX5_enterNet_32 : decode cX5_enterNet 32 = .ok (.iastore, 1) := by decide +kernel
theorem dX5_enterNet_33 : decode cX5_enterNet 33 = .ok (.iinc 1 1, 3) := by decide +kernel
theorem dX5_enterNet_36 : decode cX5_enterNet 36 = .ok (.goto (-34), 3) := by decide +kernel
theorem dX5_enterNet_39 : decode cX5_enterNet 39 = .ok (.return_, 1) := by decide +kernel
theorem dX5_passStage_0 : decode cX5_passStage 0 = .ok (.iconst 1, 1) := by decide +kernel
theorem dX5_passStage_1 : decode cX5_passStage 1 = .ok (.iconst 3, 1) := by decide +kernel
theorem dX5_passStage_2 : decode cX5_passStage 2 = .ok (.iload_n 1, 1) := by decide +kernel
theorem dX5_passStage_3 : decode cX5_passStage 3 = .ok (.isub, 1) := by decide +kernel
theorem dX5_passStage_4 : decode cX5_passStage 4 = .ok (.ishl, 1) := by decide +kernel
theorem dX5_passStage_5 : decode cX5_passStage 5 = .ok (.istore_n 2, 1) := by decide +kernel
theorem dX5_passStage_6 : decode cX5_passStage 6 = .ok (.iconst 0, 1) := by decide +kernel
theorem dX5_passStage_7 : decode cX5_passStage 7 = .ok (.istore_n 3, 1) := by decide +kernel
theorem dX5_passStage_8 : decode cX5_passStage 8 = .ok (.iconst 0, 1) := by decide +kernel
theorem dX5_passStage_9 : decode cX5_passStage 9 = .ok (.istore 4, 2) := by decide +kernel
theorem dX5_passStage_11 : decode cX5_passStage 11 = .ok (.iload 4, 2) := by decide +kernel
theorem dX5_passStage_13 : decode cX5_passStage 13 = .ok (.bipush 8, 2) := by decide +kernel
theorem dX5_passStage_15 : decode cX5_passStage 15 = .ok (.if_icmp .ge 110, 3) := by decide +kernel
theorem dX5_passStage_18 : decode cX5_passStage 18 = .ok (.aload_n 0, 1) := by decide +kernel
theorem dX5_passStage_19 : decode cX5_passStage 19 = .ok (.getfield 12, 3) := by decide +kernel
theorem dX5_passStage_22 : decode cX5_passStage 22 = .ok (.iload 4, 2) := by decide +kernel
theorem dX5_passStage_24 : decode cX5_passStage 24 = .ok (.invokevirtual 77, 3) := by decide +kernel
theorem dX5_passStage_27 : decode cX5_passStage 27 = .ok (.istore 5, 2) := by decide +kernel
theorem dX5_passStage_29 : decode cX5_passStage 29 = .ok (.iload 5, 2) := by decide +kernel
theorem dX5_passStage_31 : decode cX5_passStage 31 = .ok (.bipush (-9), 2) := by decide +kernel
theorem dX5_passStage_33 : decode cX5_passStage 33 = .ok (.if_icmp .eq 86, 3) := by decide +kernel
theorem dX5_passStage_36 : decode cX5_passStage 36 = .ok (.aload_n 0, 1) := by decide +kernel
theorem dX5_passStage_37 : decode cX5_passStage 37 = .ok (.getfield 48, 3) := by decide +kernel
theorem dX5_passStage_40 : decode cX5_passStage 40 = .ok (.iload 4, 2) := by decide +kernel
theorem dX5_passStage_42 : decode cX5_passStage 42 = .ok (.iaload, 1) := by decide +kernel
theorem dX5_passStage_43 : decode cX5_passStage 43 = .ok (.bipush (-9), 2) := by decide +kernel
theorem dX5_passStage_45 : decode cX5_passStage 45 = .ok (.if_icmp .ne 6, 3) := by decide +kernel
theorem dX5_passStage_48 : decode cX5_passStage 48 = .ok (.goto 71, 3) := by decide +kernel
theorem dX5_passStage_51 : decode cX5_passStage 51 = .ok (.aload_n 0, 1) := by decide +kernel
theorem dX5_passStage_52 : decode cX5_passStage 52 = .ok (.getfield 48, 3) := by decide +kernel
theorem dX5_passStage_55 : decode cX5_passStage 55 = .ok (.iload 4, 2) := by decide +kernel
theorem dX5_passStage_57 : decode cX5_passStage 57 = .ok (.iaload, 1) := by decide +kernel
theorem dX5_passStage_58 : decode cX5_passStage 58 = .ok (.iload_n 2, 1) := by decide +kernel
theorem dX5_passStage_59 : decode cX5_passStage 59 = .ok (.iconst (-1), 1) := by decide +kernel
theorem dX5_passStage_60 : decode cX5_passStage 60 = .ok (.ixor, 1) := by decide +kernel
theorem dX5_passStage_61 : decode cX5_passStage 61 = .ok (.iand, 1) := by decide +kernel
theorem dX5_passStage_62 : decode cX5_passStage 62 = .ok (.aload_n 0, 1) := by decide +kernel
theorem dX5_passStage_63 : decode cX5_passStage 63 = .ok (.getfield 12, 3) := by decide +kernel
theorem dX5_passStage_66 : decode cX5_passStage 66 = .ok (.getfield 115, 3) := by decide +kernel
theorem dX5_passStage_69 : decode cX5_passStage 69 = .ok (.iload 5, 2) := by decide +kernel
theorem dX5_passStage_71 : decode cX5_passStage 71 = .ok (.iaload, 1) := by decide +kernel
theorem dX5_passStage_72 : decode cX5_passStage 72 = .ok (.iload_n 2, 1) := by decide +kernel
theorem dX5_passStage_73 : decode cX5_passStage 73 = .ok (.iand, 1) := by decide +kernel
theorem dX5_passStage_74 : decode cX5_passStage 74 = .ok (.ior, 1) := by decide +kernel
theorem dX5_passStage_75 : decode cX5_passStage 75 = .ok (.istore 6, 2) := by decide +kernel
theorem dX5_passStage_77 : decode cX5_passStage 77 = .ok (.iload_n 3, 1) := by decide +kernel
theorem dX5_passStage_78 : decode cX5_passStage 78 = .ok (.iconst 1, 1) := by decide +kernel
theorem dX5_passStage_79 : decode cX5_passStage 79 = .ok (.iload 6, 2) := by decide +kernel
theorem dX5_passStage_81 : decode cX5_passStage 81 = .ok (.ishl, 1) := by decide +kernel
theorem dX5_passStage_82 : decode cX5_passStage 82 = .ok (.iand, 1) := by decide +kernel
theorem dX5_passStage_83 : decode cX5_passStage 83 = .ok (.ifCond .eq 7, 3) := by decide +kernel
theorem dX5_passStage_86 : decode cX5_passStage 86 = .ok (.iconst 1, 1) := by decide +kernel
theorem dX5_passStage_87 : decode cX5_passStage 87 = .ok (.goto 4, 3) := by decide +kernel
theorem dX5_passStage_90 : decode cX5_passStage 90 = .ok (.iconst 0, 1) := by decide +kernel
theorem dX5_passStage_91 : decode cX5_passStage 91 = .ok (.istore 7, 2) := by decide +kernel
theorem dX5_passStage_93 : decode cX5_passStage 93 = .ok (.aload_n 0, 1) := by decide +kernel
theorem dX5_passStage_94 : decode cX5_passStage 94 = .ok (.getfield 48, 3) := by decide +kernel
theorem dX5_passStage_97 : decode cX5_passStage 97 = .ok (.iload 4, 2) := by decide +kernel
theorem dX5_passStage_99 : decode cX5_passStage 99 = .ok (.iload 7, 2) := by decide +kernel
theorem dX5_passStage_101 : decode cX5_passStage 101 = .ok (.ifCond .eq 8, 3) := by decide +kernel
theorem dX5_passStage_104 : decode cX5_passStage 104 = .ok (.bipush (-9), 2) := by decide +kernel
theorem dX5_passStage_106 : decode cX5_passStage 106 = .ok (.goto 5, 3) := by decide +kernel
theorem dX5_passStage_109 : decode cX5_passStage 109 = .ok (.iload 6, 2) := by decide +kernel
theorem dX5_passStage_111 : decode cX5_passStage 111 = .ok (.iastore, 1) := by decide +kernel
theorem dX5_passStage_112 : decode cX5_passStage 112 = .ok (.iload_n 3, 1) := by decide +kernel
theorem dX5_passStage_113 : decode cX5_passStage 113 = .ok (.iconst 1, 1) := by decide +kernel
theorem dX5_passStage_114 : decode cX5_passStage 114 = .ok (.iload 6, 2) := by decide +kernel
theorem dX5_passStage_116 : decode cX5_passStage 116 = .ok (.ishl, 1) := by decide +kernel
theorem dX5_passStage_117 : decode cX5_passStage 117 = .ok (.ior, 1) := by decide +kernel
theorem dX5_passStage_118 : decode cX5_passStage 118 = .ok (.istore_n 3, 1) := by decide +kernel
theorem dX5_passStage_119 : decode cX5_passStage 119 = .ok (.iinc 4 1, 3) := by decide +kernel
theorem dX5_passStage_122 : decode cX5_passStage 122 = .ok (.goto (-111), 3) := by decide +kernel
theorem dX5_passStage_125 : decode cX5_passStage 125 = .ok (.return_, 1) := by decide +kernel
theorem dX5_trySlot_0 : decode cX5_trySlot 0 = .ok (.aload_n 0, 1) := by decide +kernel
theorem dX5_trySlot_1 : decode cX5_trySlot 1 = .ok (.getfield 16, 3) := by decide +kernel
theorem dX5_trySlot_4 : decode cX5_trySlot 4 = .ok (.invokevirtual 156, 3) := by decide +kernel
theorem dX5_trySlot_7 : decode cX5_trySlot 7 = .ok (.istore_n 1, 1) := by decide +kernel
theorem dX5_trySlot_8 : decode cX5_trySlot 8 = .ok (.aload_n 0, 1) := by decide +kernel
theorem dX5_trySlot_9 : decode cX5_trySlot 9 = .ok (.getfield 22, 3) := by decide +kernel
theorem dX5_trySlot_12 : decode cX5_trySlot 12 = .ok (.aload_n 0, 1) := by decide +kernel
theorem dX5_trySlot_13 : decode cX5_trySlot 13 = .ok (.getfield 16, 3) := by decide +kernel
theorem dX5_trySlot_16 : decode cX5_trySlot 16 = .ok (.invokevirtual 94, 3) := by decide +kernel
theorem dX5_trySlot_19 : decode cX5_trySlot 19 = .ok (.aload_n 0, 1) := by decide +kernel
theorem dX5_trySlot_20 : decode cX5_trySlot 20 = .ok (.getfield 16, 3) := by decide +kernel
theorem dX5_trySlot_23 : decode cX5_trySlot 23 = .ok (.invokevirtual 156, 3) := by decide +kernel
theorem dX5_trySlot_26 : decode cX5_trySlot 26 = .ok (.iload_n 1, 1) := by decide +kernel
theorem dX5_trySlot_27 : decode cX5_trySlot 27 = .ok (.if_icmp .eq 7, 3) := by decide +kernel
theorem dX5_trySlot_30 : decode cX5_trySlot 30 = .ok (.iconst 1, 1) := by decide +kernel
theorem dX5_trySlot_31 : decode cX5_trySlot 31 = .ok (.goto 4, 3) := by decide +kernel
theorem dX5_trySlot_34 : decode cX5_trySlot 34 = .ok (.iconst 0, 1) := by decide +kernel
theorem dX5_trySlot_35 : decode cX5_trySlot 35 = .ok (.ireturn, 1) := by decide +kernel
theorem dX5_dropsIn_0 : decode cX5_dropsIn 0 = .ok (.aload_n 0, 1) := by decide +kernel
theorem dX5_dropsIn_1 : decode cX5_dropsIn 1 = .ok (.getfield 16, 3) := by decide +kernel
theorem dX5_dropsIn_4 : decode cX5_dropsIn 4 = .ok (.aload_n 0, 1) := by decide +kernel
theorem dX5_dropsIn_5 : decode cX5_dropsIn 5 = .ok (.getfield 12, 3) := by decide +kernel
theorem dX5_dropsIn_8 : decode cX5_dropsIn 8 = .ok (.invokevirtual 153, 3) := by decide +kernel
theorem dX5_dropsIn_11 : decode cX5_dropsIn 11 = .ok (.aload_n 0, 1) := by decide +kernel
theorem dX5_dropsIn_12 : decode cX5_dropsIn 12 = .ok (.getfield 16, 3) := by decide +kernel
theorem dX5_dropsIn_15 : decode cX5_dropsIn 15 = .ok (.iload_n 2, 1) := by decide +kernel
theorem dX5_dropsIn_16 : decode cX5_dropsIn 16 = .ok (.putfield 56, 3) := by decide +kernel
theorem dX5_dropsIn_19 : decode cX5_dropsIn 19 = .ok (.iconst 1, 1) := by decide +kernel
theorem dX5_dropsIn_20 : decode cX5_dropsIn 20 = .ok (.istore_n 3, 1) := by decide +kernel
theorem dX5_dropsIn_21 : decode cX5_dropsIn 21 = .ok (.iconst 0, 1) := by decide +kernel
theorem dX5_dropsIn_22 : decode cX5_dropsIn 22 = .ok (.istore 4, 2) := by decide +kernel
theorem dX5_dropsIn_24 : decode cX5_dropsIn 24 = .ok (.iload 4, 2) := by decide +kernel
theorem dX5_dropsIn_26 : decode cX5_dropsIn 26 = .ok (.iload_n 1, 1) := by decide +kernel
theorem dX5_dropsIn_27 : decode cX5_dropsIn 27 = .ok (.if_icmp .ge 18, 3) := by decide +kernel
theorem dX5_dropsIn_30 : decode cX5_dropsIn 30 = .ok (.iload_n 3, 1) := by decide +kernel
theorem dX5_dropsIn_31 : decode cX5_dropsIn 31 = .ok (.ifCond .eq 14, 3) := by decide +kernel
theorem dX5_dropsIn_34 : decode cX5_dropsIn 34 = .ok (.aload_n 0, 1) := by decide +kernel
theorem dX5_dropsIn_35 : decode cX5_dropsIn 35 = .ok (.invokevirtual 160, 3) := by decide +kernel
theorem dX5_dropsIn_38 : decode cX5_dropsIn 38 = .ok (.istore_n 3, 1) := by decide +kernel
theorem dX5_dropsIn_39 : decode cX5_dropsIn 39 = .ok (.iinc 4 1, 3) := by decide +kernel
theorem dX5_dropsIn_42 : decode cX5_dropsIn 42 = .ok (.goto (-18), 3) := by decide +kernel
theorem dX5_dropsIn_45 : decode cX5_dropsIn 45 = .ok (.aload_n 0, 1) := by decide +kernel
theorem dX5_dropsIn_46 : decode cX5_dropsIn 46 = .ok (.getfield 16, 3) := by decide +kernel
theorem dX5_dropsIn_49 : decode cX5_dropsIn 49 = .ok (.getfield 91, 3) := by decide +kernel
theorem dX5_dropsIn_52 : decode cX5_dropsIn 52 = .ok (.iconst 4, 1) := by decide +kernel
theorem dX5_dropsIn_53 : decode cX5_dropsIn 53 = .ok (.iaload, 1) := by decide +kernel
theorem dX5_dropsIn_54 : decode cX5_dropsIn 54 = .ok (.aload_n 0, 1) := by decide +kernel
theorem dX5_dropsIn_55 : decode cX5_dropsIn 55 = .ok (.getfield 12, 3) := by decide +kernel
theorem dX5_dropsIn_58 : decode cX5_dropsIn 58 = .ok (.getfield 91, 3) := by decide +kernel
theorem dX5_dropsIn_61 : decode cX5_dropsIn 61 = .ok (.iconst 4, 1) := by decide +kernel
theorem dX5_dropsIn_62 : decode cX5_dropsIn 62 = .ok (.iaload, 1) := by decide +kernel
theorem dX5_dropsIn_63 : decode cX5_dropsIn 63 = .ok (.isub, 1) := by decide +kernel
theorem dX5_dropsIn_64 : decode cX5_dropsIn 64 = .ok (.ireturn, 1) := by decide +kernel
theorem dX5_explainsAllSeen_0 : decode cX5_explainsAllSeen 0 = .ok (.aload_n 0, 1) := by decide +kernel
theorem dX5_explainsAllSeen_1 : decode cX5_explainsAllSeen 1 = .ok (.getfield 16, 3) := by decide +kernel
theorem dX5_explainsAllSeen_4 : decode cX5_explainsAllSeen 4 = .ok (.aload_n 0, 1) := by decide +kernel
theorem dX5_explainsAllSeen_5 : decode cX5_explainsAllSeen 5 = .ok (.getfield 12, 3) := by decide +kernel
theorem dX5_explainsAllSeen_8 : decode cX5_explainsAllSeen 8 = .ok (.invokevirtual 153, 3) := by decide +kernel
theorem dX5_explainsAllSeen_11 : decode cX5_explainsAllSeen 11 = .ok (.aload_n 0, 1) := by decide +kernel
theorem dX5_explainsAllSeen_12 : decode cX5_explainsAllSeen 12 = .ok (.getfield 16, 3) := by decide +kernel
theorem dX5_explainsAllSeen_15 : decode cX5_explainsAllSeen 15 = .ok (.iload_n 1, 1) := by decide +kernel
theorem dX5_explainsAllSeen_16 : decode cX5_explainsAllSeen 16 = .ok (.iconst 4, 1) := by decide +kernel
theorem dX5_explainsAllSeen_17 : decode cX5_explainsAllSeen 17 = .ok (.invokevirtual 190, 3) := by decide +kernel
theorem dX5_explainsAllSeen_20 : decode cX5_explainsAllSeen 20 = .ok (.aload_n 0, 1) := by decide +kernel
theorem dX5_explainsAllSeen_21 : decode cX5_explainsAllSeen 21 = .ok (.getfield 36, 3) := by decide +kernel
theorem dX5_explainsAllSeen_24 : decode cX5_explainsAllSeen 24 = .ok (.invokevirtual 193, 3) := by decide +kernel
theorem dX5_explainsAllSeen_27 : decode cX5_explainsAllSeen 27 = .ok (.istore_n 2, 1) := by decide +kernel
theorem dX5_explainsAllSeen_28 : decode cX5_explainsAllSeen 28 = .ok (.iconst 1, 1) := by decide +kernel
theorem dX5_explainsAllSeen_29 : decode cX5_explainsAllSeen 29 = .ok (.istore_n 3, 1) := by decide +kernel
theorem dX5_explainsAllSeen_30 : decode cX5_explainsAllSeen 30 = .ok (.iconst 1, 1) := by decide +kernel
theorem dX5_explainsAllSeen_31 : decode cX5_explainsAllSeen 31 = .ok (.istore 4, 2) := by decide +kernel
theorem dX5_explainsAllSeen_33 : decode cX5_explainsAllSeen 33 = .ok (.iload 4, 2) := by decide +kernel
theorem dX5_explainsAllSeen_35 : decode cX5_explainsAllSeen 35 = .ok (.iload_n 2, 1) := by decide +kernel
theorem dX5_explainsAllSeen_36 : decode cX5_explainsAllSeen 36 = .ok (.if_icmp .gt 51, 3) := by decide +kernel
theorem dX5_explainsAllSeen_39 : decode cX5_explainsAllSeen 39 = .ok (.iload_n 3, 1) := by decide +kernel
theorem dX5_explainsAllSeen_40 : decode cX5_explainsAllSeen 40 = .ok (.ifCond .eq 8, 3) := by decide +kernel
theorem dX5_explainsAllSeen_43 : decode cX5_explainsAllSeen 43 = .ok (.aload_n 0, 1) := by decide +kernel
theorem dX5_explainsAllSeen_44 : decode cX5_explainsAllSeen 44 = .ok (.invokevirtual 160, 3) := by decide +kernel
theorem dX5_explainsAllSeen_47 : decode cX5_explainsAllSeen 47 = .ok (.istore_n 3, 1) := by decide +kernel
theorem dX5_explainsAllSeen_48 : decode cX5_explainsAllSeen 48 = .ok (.aload_n 0, 1) := by decide +kernel
theorem dX5_explainsAllSeen_49 : decode cX5_explainsAllSeen 49 = .ok (.getfield 36, 3) := by decide +kernel
theorem dX5_explainsAllSeen_52 : decode cX5_explainsAllSeen 52 = .ok (.iload 4, 2) := by decide +kernel
theorem dX5_explainsAllSeen_54 : decode cX5_explainsAllSeen 54 = .ok (.aload_n 0, 1) := by decide +kernel
theorem dX5_explainsAllSeen_55 : decode cX5_explainsAllSeen 55 = .ok (.getfield 16, 3) := by decide +kernel
theorem dX5_explainsAllSeen_58 : decode cX5_explainsAllSeen 58 = .ok (.getfield 91, 3) := by decide +kernel
theorem dX5_explainsAllSeen_61 : decode cX5_explainsAllSeen 61 = .ok (.iconst 3, 1) := by decide +kernel
theorem dX5_explainsAllSeen_62 : decode cX5_explainsAllSeen 62 = .ok (.iaload, 1) := by decide +kernel
theorem dX5_explainsAllSeen_63 : decode cX5_explainsAllSeen 63 = .ok (.aload_n 0, 1) := by decide +kernel
theorem dX5_explainsAllSeen_64 : decode cX5_explainsAllSeen 64 = .ok (.getfield 12, 3) := by decide +kernel
theorem dX5_explainsAllSeen_67 : decode cX5_explainsAllSeen 67 = .ok (.getfield 91, 3) := by decide +kernel
theorem dX5_explainsAllSeen_70 : decode cX5_explainsAllSeen 70 = .ok (.iconst 3, 1) := by decide +kernel
theorem dX5_explainsAllSeen_71 : decode cX5_explainsAllSeen 71 = .ok (.iaload, 1) := by decide +kernel
theorem dX5_explainsAllSeen_72 : decode cX5_explainsAllSeen 72 = .ok (.isub, 1) := by decide +kernel
theorem dX5_explainsAllSeen_73 : decode cX5_explainsAllSeen 73 = .ok (.invokevirtual 196, 3) := by decide +kernel
theorem dX5_explainsAllSeen_76 : decode cX5_explainsAllSeen 76 = .ok (.ifCond .ne 5, 3) := by decide +kernel
theorem dX5_explainsAllSeen_79 : decode cX5_explainsAllSeen 79 = .ok (.iconst 0, 1) := by decide +kernel
theorem dX5_explainsAllSeen_80 : decode cX5_explainsAllSeen 80 = .ok (.ireturn, 1) := by decide +kernel
theorem dX5_explainsAllSeen_81 : decode cX5_explainsAllSeen 81 = .ok (.iinc 4 1, 3) := by decide +kernel
theorem dX5_explainsAllSeen_84 : decode cX5_explainsAllSeen 84 = .ok (.goto (-51), 3) := by decide +kernel
theorem dX5_explainsAllSeen_87 : decode cX5_explainsAllSeen 87 = .ok (.iconst 1, 1) := by decide +kernel
theorem dX5_explainsAllSeen_88 : decode cX5_explainsAllSeen 88 = .ok (.ireturn, 1) := by decide +kernel
theorem dX5_waysNotTaken_0 : decode cX5_waysNotTaken 0 = .ok (.lconst 0, 1) := by decide +kernel
theorem dX5_waysNotTaken_1 : decode cX5_waysNotTaken 1 = .ok (.lstore_n 2, 1) := by decide +kernel
theorem dX5_waysNotTaken_2 : decode cX5_waysNotTaken 2 = .ok (.iload_n 1, 1) := by decide +kernel
theorem dX5_waysNotTaken_3 : decode cX5_waysNotTaken 3 = .ok (.iconst 1, 1) := by decide +kernel
theorem dX5_waysNotTaken_4 : decode cX5_waysNotTaken 4 = .ok (.iadd, 1) := by decide +kernel
theorem dX5_waysNotTaken_5 : decode cX5_waysNotTaken 5 = .ok (.istore 4, 2) := by decide +kernel
theorem dX5_waysNotTaken_7 : decode cX5_waysNotTaken 7 = .ok (.iload 4, 2) := by decide +kernel
theorem dX5_waysNotTaken_9 : decode cX5_waysNotTaken 9 = .ok (.bipush 8, 2) := by decide +kernel
theorem dX5_waysNotTaken_11 : decode cX5_waysNotTaken 11 = .ok (.if_icmp .gt 51, 3) := by decide +kernel
theorem dX5_waysNotTaken_14 : decode cX5_waysNotTaken 14 = .ok (.getstatic 200, 3) := by decide +kernel
theorem dX5_waysNotTaken_17 : decode cX5_waysNotTaken 17 = .ok (.iload 4, 2) := by decide +kernel
theorem dX5_waysNotTaken_19 : decode cX5_waysNotTaken 19 = .ok (.iaload, 1) := by decide +kernel
theorem dX5_waysNotTaken_20 : decode cX5_waysNotTaken 20 = .ok (.i2l, 1) := by decide +kernel
theorem dX5_waysNotTaken_21 : decode cX5_waysNotTaken 21 = .ok (.iload_n 0, 1) := by decide +kernel
theorem dX5_waysNotTaken_22 : decode cX5_waysNotTaken 22 = .ok (.i2l, 1) := by decide +kernel
theorem dX5_waysNotTaken_23 : decode cX5_waysNotTaken 23 = .ok (.iload 4, 2) := by decide +kernel
theorem dX5_waysNotTaken_25 : decode cX5_waysNotTaken 25 = .ok (.invokestatic 175, 3) := by decide +kernel
theorem dX5_waysNotTaken_28 : decode cX5_waysNotTaken 28 = .ok (.lmul, 1) := by decide +kernel
theorem dX5_waysNotTaken_29 : decode cX5_waysNotTaken 29 = .ok (.bipush 80, 2) := by decide +kernel
theorem dX5_waysNotTaken_31 : decode cX5_waysNotTaken 31 = .ok (.iload_n 0, 1) := by decide +kernel
theorem dX5_waysNotTaken_32 : decode cX5_waysNotTaken 32 = .ok (.isub, 1) := by decide +kernel
theorem dX5_waysNotTaken_33 : decode cX5_waysNotTaken 33 = .ok (.i2l, 1) := by decide +kernel
theorem dX5_waysNotTaken_34 : decode cX5_waysNotTaken 34 = .ok (.bipush 8, 2) := by decide +kernel
theorem dX5_waysNotTaken_36 : decode cX5_waysNotTaken 36 = .ok (.iload 4, 2) := by decide +kernel
theorem dX5_waysNotTaken_38 : decode cX5_waysNotTaken 38 = .ok (.isub, 1) := by decide +kernel
theorem dX5_waysNotTaken_39 : decode cX5_waysNotTaken 39 = .ok (.invokestatic 175, 3) := by decide +kernel
theorem dX5_waysNotTaken_42 : decode cX5_waysNotTaken 42 = .ok (.lmul, 1) := by decide +kernel
theorem dX5_waysNotTaken_43 : decode cX5_waysNotTaken 43 = .ok (.lstore 5, 2) := by decide +kernel
theorem dX5_waysNotTaken_45 : decode cX5_waysNotTaken 45 = .ok (.lload_n 2, 1) := by decide +kernel
theorem dX5_waysNotTaken_46 : decode cX5_waysNotTaken 46 = .ok (.iload 4, 2) := by decide +kernel
theorem dX5_waysNotTaken_48 : decode cX5_waysNotTaken 48 = .ok (.iload_n 1, 1) := by decide +kernel
theorem dX5_waysNotTaken_49 : decode cX5_waysNotTaken 49 = .ok (.isub, 1) := by decide +kernel
theorem dX5_waysNotTaken_50 : decode cX5_waysNotTaken 50 = .ok (.i2l, 1) := by decide +kernel
theorem dX5_waysNotTaken_51 : decode cX5_waysNotTaken 51 = .ok (.lload 5, 2) := by decide +kernel
theorem dX5_waysNotTaken_53 : decode cX5_waysNotTaken 53 = .ok (.lmul, 1) := by decide +kernel
theorem dX5_waysNotTaken_54 : decode cX5_waysNotTaken 54 = .ok (.ladd, 1) := by decide +kernel
theorem dX5_waysNotTaken_55 : decode cX5_waysNotTaken 55 = .ok (.lstore_n 2, 1) := by decide +kernel
theorem dX5_waysNotTaken_56 : decode cX5_waysNotTaken 56 = .ok (.iinc 4 1, 3) := by decide +kernel
theorem dX5_waysNotTaken_59 : decode cX5_waysNotTaken 59 = .ok (.goto (-52), 3) := by decide +kernel
theorem dX5_waysNotTaken_62 : decode cX5_waysNotTaken 62 = .ok (.lload_n 2, 1) := by decide +kernel
theorem dX5_waysNotTaken_63 : decode cX5_waysNotTaken 63 = .ok (.lreturn, 1) := by decide +kernel
theorem dX5_power_0 : decode cX5_power 0 = .ok (.lconst 1, 1) := by decide +kernel
theorem dX5_power_1 : decode cX5_power 1 = .ok (.lstore_n 3, 1) := by decide +kernel
theorem dX5_power_2 : decode cX5_power 2 = .ok (.iconst 0, 1) := by decide +kernel
theorem dX5_power_3 : decode cX5_power 3 = .ok (.istore 5, 2) := by decide +kernel
theorem dX5_power_5 : decode cX5_power 5 = .ok (.iload 5, 2) := by decide +kernel
theorem dX5_power_7 : decode cX5_power 7 = .ok (.iload_n 2, 1) := by decide +kernel
theorem dX5_power_8 : decode cX5_power 8 = .ok (.if_icmp .ge 13, 3) := by decide +kernel
theorem dX5_power_11 : decode cX5_power 11 = .ok (.lload_n 3, 1) := by decide +kernel
theorem dX5_power_12 : decode cX5_power 12 = .ok (.lload_n 0, 1) := by decide +kernel
theorem dX5_power_13 : decode cX5_power 13 = .ok (.lmul, 1) := by decide +kernel
theorem dX5_power_14 : decode cX5_power 14 = .ok (.lstore_n 3, 1) := by decide +kernel
theorem dX5_power_15 : decode cX5_power 15 = .ok (.iinc 5 1, 3) := by decide +kernel
theorem dX5_power_18 : decode cX5_power 18 = .ok (.goto (-13), 3) := by decide +kernel
theorem dX5_power_21 : decode cX5_power 21 = .ok (.lload_n 3, 1) := by decide +kernel
theorem dX5_power_22 : decode cX5_power 22 = .ok (.lreturn, 1) := by decide +kernel
theorem dX5_commonDivisor_0 : decode cX5_commonDivisor 0 = .ok (.lload_n 0, 1) := by decide +kernel
theorem dX5_commonDivisor_1 : decode cX5_commonDivisor 1 = .ok (.lstore 4, 2) := by decide +kernel
theorem dX5_commonDivisor_3 : decode cX5_commonDivisor 3 = .ok (.lload_n 2, 1) := by decide +kernel
theorem dX5_commonDivisor_4 : decode cX5_commonDivisor 4 = .ok (.lstore 6, 2) := by decide +kernel
theorem dX5_commonDivisor_6 : decode cX5_commonDivisor 6 = .ok (.iconst 0, 1) := by decide +kernel
theorem dX5_commonDivisor_7 : decode cX5_commonDivisor 7 = .ok (.istore 8, 2) := by decide +kernel
theorem dX5_commonDivisor_9 : decode cX5_commonDivisor 9 = .ok (.iload 8, 2) := by decide +kernel
theorem dX5_commonDivisor_11 : decode cX5_commonDivisor 11 = .ok (.sipush 200, 3) := by decide +kernel
theorem dX5_commonDivisor_14 : decode cX5_commonDivisor 14 = .ok (.if_icmp .ge 31, 3) := by decide +kernel
theorem dX5_commonDivisor_17 : decode cX5_commonDivisor 17 = .ok (.lload 6, 2) := by decide +kernel
theorem dX5_commonDivisor_19 : decode cX5_commonDivisor 19 = .ok (.lconst 0, 1) := by decide +kernel
theorem dX5_commonDivisor_20 : decode cX5_commonDivisor 20 = .ok (.lcmp, 1) := by decide +kernel
theorem dX5_commonDivisor_21 : decode cX5_commonDivisor 21 = .ok (.ifCond .eq 24, 3) := by decide +kernel
theorem dX5_commonDivisor_24 : decode cX5_commonDivisor 24 = .ok (.lload 4, 2) := by decide +kernel
theorem dX5_commonDivisor_26 : decode cX5_commonDivisor 26 = .ok (.lload 6, 2) := by decide +kernel
theorem dX5_commonDivisor_28 : decode cX5_commonDivisor 28 = .ok (.lrem, 1) := by decide +kernel
theorem dX5_commonDivisor_29 : decode cX5_commonDivisor 29 = .ok (.lstore 9, 2) := by decide +kernel
theorem dX5_commonDivisor_31 : decode cX5_commonDivisor 31 = .ok (.lload 6, 2) := by decide +kernel
theorem dX5_commonDivisor_33 : decode cX5_commonDivisor 33 = .ok (.lstore 4, 2) := by decide +kernel
theorem dX5_commonDivisor_35 : decode cX5_commonDivisor 35 = .ok (.lload 9, 2) := by decide +kernel
theorem dX5_commonDivisor_37 : decode cX5_commonDivisor 37 = .ok (.lstore 6, 2) := by decide +kernel
theorem dX5_commonDivisor_39 : decode cX5_commonDivisor 39 = .ok (.iinc 8 1, 3) := by decide +kernel
theorem dX5_commonDivisor_42 : decode cX5_commonDivisor 42 = .ok (.goto (-33), 3) := by decide +kernel
theorem dX5_commonDivisor_45 : decode cX5_commonDivisor 45 = .ok (.lload 4, 2) := by decide +kernel
theorem dX5_commonDivisor_47 : decode cX5_commonDivisor 47 = .ok (.lreturn, 1) := by decide +kernel
theorem dX6_init_0 : decode cX6_init 0 = .ok (.aload_n 0, 1) := by decide +kernel
theorem dX6_init_1 : decode cX6_init 1 = .ok (.invokespecial 1, 3) := by decide +kernel
theorem dX6_init_4 : decode cX6_init 4 = .ok (.aload_n 0, 1) := by decide +kernel
theorem dX6_init_5 : decode cX6_init 5 = .ok (.iconst 1, 1) := by decide +kernel
theorem dX6_init_6 : decode cX6_init 6 = .ok (.putfield 7, 3) := by decide +kernel
theorem dX6_init_9 : decode cX6_init 9 = .ok (.aload_n 0, 1) := by decide +kernel
theorem dX6_init_10 : decode cX6_init 10 = .ok (.bipush 8, 2) := by decide +kernel
theorem dX6_init_12 : decode cX6_init 12 = .ok (.putfield 13, 3) := by decide +kernel
theorem dX6_init_15 : decode cX6_init 15 = .ok (.aload_n 0, 1) := by decide +kernel
theorem dX6_init_16 : decode cX6_init 16 = .ok (.bipush 8, 2) := by decide +kernel
theorem dX6_init_18 : decode cX6_init 18 = .ok (.putfield 16, 3) := by decide +kernel
theorem dX6_init_21 : decode cX6_init 21 = .ok (.aload_n 0, 1) := by decide +kernel
theorem dX6_init_22 : decode cX6_init 22 = .ok (.sipush 512, 3) := by decide +kernel
theorem dX6_init_25 : decode cX6_init 25 = .ok (.newarray .int, 2) := by decide +kernel
theorem dX6_init_27 : decode cX6_init 27 = .ok (.putfield 19, 3) := by decide +kernel
theorem dX6_init_30 : decode cX6_init 30 = .ok (.aload_n 0, 1) := by decide +kernel
theorem dX6_init_31 : decode cX6_init 31 = .ok (.sipush 6760, 3) := by decide +kernel
theorem dX6_init_34 : decode cX6_init 34 = .ok (.newarray .int, 2) := by decide +kernel
theorem dX6_init_36 : decode cX6_init 36 = .ok (.putfield 23, 3) := by decide +kernel
theorem dX6_init_39 : decode cX6_init 39 = .ok (.aload_n 0, 1) := by decide +kernel
theorem dX6_init_40 : decode cX6_init 40 = .ok (.iconst 2, 1) := by decide +kernel
theorem dX6_init_41 : decode cX6_init 41 = .ok (.newarray .int, 2) := by decide +kernel
theorem dX6_init_43 : decode cX6_init 43 = .ok (.putfield 26, 3) := by decide +kernel
theorem dX6_init_46 : decode cX6_init 46 = .ok (.aload_n 0, 1) := by decide +kernel
theorem dX6_init_47 : decode cX6_init 47 = .ok (.bipush 64, 2) := by decide +kernel
theorem dX6_init_49 : decode cX6_init 49 = .ok (.newarray .int, 2) := by decide +kernel
theorem dX6_init_51 : decode cX6_init 51 = .ok (.putfield 29, 3) := by decide +kernel
theorem dX6_init_54 : decode cX6_init 54 = .ok (.aload_n 0, 1) := by decide +kernel
theorem dX6_init_55 : decode cX6_init 55 = .ok (.bipush 64, 2) := by decide +kernel
theorem dX6_init_57 : decode cX6_init 57 = .ok (.newarray .int, 2) := by decide +kernel
theorem dX6_init_59 : decode cX6_init 59 = .ok (.putfield 32, 3) := by decide +kernel
theorem dX6_init_62 : decode cX6_init 62 = .ok (.aload_n 0, 1) := by decide +kernel
theorem dX6_init_63 : decode cX6_init 63 = .ok (.bipush 8, 2) := by decide +kernel
theorem dX6_init_65 : decode cX6_init 65 = .ok (.newarray .int, 2) := by decide +kernel
theorem dX6_init_67 : decode cX6_init 67 = .ok (.putfield 35, 3) := by decide +kernel
theorem dX6_init_70 : decode cX6_init 70 = .ok (.aload_n 0, 1) := by decide +kernel
theorem dX6_init_71 : decode cX6_init 71 = .ok (.bipush 8, 2) := by decide +kernel
theorem dX6_init_73 : decode cX6_init 73 = .ok (.newarray .int, 2) := by decide +kernel
theorem dX6_init_75 : decode cX6_init 75 = .ok (.putfield 38, 3) := by decide +kernel
theorem dX6_init_78 : decode cX6_init 78 = .ok (.aload_n 0, 1) := by decide +kernel
theorem dX6_init_79 : decode cX6_init 79 = .ok (.bipush 6, 2) := by decide +kernel
theorem dX6_init_81 : decode cX6_init 81 = .ok (.newarray .int, 2) := by decide +kernel
theorem dX6_init_83 : decode cX6_init 83 = .ok (.putfield 41, 3) := by decide +kernel
theorem dX6_init_86 : decode cX6_init 86 = .ok (.aload_n 0, 1) := by decide +kernel
theorem dX6_init_87 : decode cX6_init 87 = .ok (.bipush 6, 2) := by decide +kernel
theorem dX6_init_89 : decode cX6_init 89 = .ok (.newarray .int, 2) := by decide +kernel
theorem dX6_init_91 : decode cX6_init 91 = .ok (.putfield 44, 3) := by decide +kernel
theorem dX6_init_94 : decode cX6_init 94 = .ok (.return_, 1) := by decide +kernel
theorem dX6_in_0 : decode cX6_in 0 = .ok (.iload_n 0, 1) := by decide +kernel
theorem dX6_in_1 : decode cX6_in 1 = .ok (.iload_n 1, 1) := by decide +kernel
theorem dX6_in_2 : decode cX6_in 2 = .ok (.if_icmp .lt 12, 3) := by decide +kernel
theorem dX6_in_5 : decode cX6_in 5 = .ok (.iload_n 0, 1) := by decide +kernel
theorem dX6_in_6 : decode cX6_in 6 = .ok (.iload_n 2, 1) := by decide +kernel
theorem dX6_in_7 : decode cX6_in 7 = .ok (.if_icmp .gt 7, 3) := by decide +kernel
theorem dX6_in_10 : decode cX6_in 10 = .ok (.iconst 1, 1) := by decide +kernel
theorem dX6_in_11 : decode cX6_in 11 = .ok (.goto 4, 3) := by decide +kernel
theorem dX6_in_14 : decode cX6_in 14 = .ok (.iconst 0, 1) := by decide +kernel
theorem dX6_in_15 : decode cX6_in 15 = .ok (.ireturn, 1) := by decide +kernel
theorem dX6_writes_0 : decode cX6_writes 0 = .ok (.sipush 520, 3) := by decide +kernel
theorem dX6_writes_3 : decode cX6_writes 3 = .ok (.iload_n 1, 1) := by decide +kernel
theorem dX6_writes_4 : decode cX6_writes 4 = .ok (.imul, 1) := by decide +kernel
theorem dX6_writes_5 : decode cX6_writes 5 = .ok (.istore_n 2, 1) := by decide +kernel
theorem dX6_writes_6 : decode cX6_writes 6 = .ok (.aload_n 0, 1) := by decide +kernel
theorem dX6_writes_7 : decode cX6_writes 7 = .ok (.getfield 23, 3) := by decide +kernel
theorem dX6_writes_10 : decode cX6_writes 10 = .ok (.iload_n 2, 1) := by decide +kernel
theorem dX6_writes_11 : decode cX6_writes 11 = .ok (.aload_n 0, 1) := by decide +kernel
theorem dX6_writes_12 : decode cX6_writes 12 = .ok (.getfield 7, 3) := by decide +kernel
theorem dX6_writes_15 : decode cX6_writes 15 = .ok (.iastore, 1) := by decide +kernel
theorem dX6_writes_16 : decode cX6_writes 16 = .ok (.aload_n 0, 1) := by decide +kernel
theorem dX6_writes_17 : decode cX6_writes 17 = .ok (.getfield 23, 3) := by decide +kernel
theorem dX6_writes_20 : decode cX6_writes 20 = .ok (.iload_n 2, 1) := by decide +kernel
theorem dX6_writes_21 : decode cX6_writes 21 = .ok (.iconst 1, 1) := by decide +kernel
theorem dX6_writes_22 : decode cX6_writes 22 = .ok (.iadd, 1) := by decide +kernel
theorem dX6_writes_23 : decode cX6_writes 23 = .ok (.aload_n 0, 1) := by decide +kernel
theorem dX6_writes_24 : decode cX6_writes 24 = .ok (.getfield 13, 3) := by decide +kernel
theorem dX6_writes_27 : decode cX6_writes 27 = .ok (.iastore, 1) := by decide +kernel
theorem dX6_writes_28 : decode cX6_writes 28 = .ok (.aload_n 0, 1) := by decide +kernel
theorem dX6_writes_29 : decode cX6_writes 29 = .ok (.getfield 23, 3) := by decide +kernel
theorem dX6_writes_32 : decode cX6_writes 32 = .ok (.iload_n 2, 1) := by decide +kernel
theorem dX6_writes_33 : decode cX6_writes 33 = .ok (.iconst 2, 1) := by decide +kernel
theorem dX6_writes_34 : decode cX6_writes 34 = .ok (.iadd, 1) := by decide +kernel
theorem dX6_writes_35 : decode cX6_writes 35 = .ok (.aload_n 0, 1) := by decide +kernel
theorem dX6_writes_36 : decode cX6_writes 36 = .ok (.getfield 16, 3) := by decide +kernel
theorem dX6_writes_39 : decode cX6_writes 39 = .ok (.iastore, 1) := by decide +kernel
theorem dX6_writes_40 : decode cX6_writes 40 = .ok (.aload_n 0, 1) := by decide +kernel
theorem dX6_writes_41 : decode cX6_writes 41 = .ok (.getfield 23, 3) := by decide +kernel
theorem dX6_writes_44 : decode cX6_writes 44 = .ok (.iload_n 2, 1) := by decide +kernel
theorem dX6_writes_45 : decode cX6_writes 45 = .ok (.iconst 3, 1) := by decide +kernel
theorem dX6_writes_46 : decode cX6_writes 46 = .ok (.iadd, 1) := by decide +kernel
theorem dX6_writes_47 : decode cX6_writes 47 = .ok (.aload_n 0, 1) := by decide +kernel
theorem dX6_writes_48 : decode cX6_writes 48 = .ok (.getfield 47, 3) := by decide +kernel
theorem dX6_writes_51 : decode cX6_writes 51 = .ok (.iastore, 1) := by decide +kernel
theorem dX6_writes_52 : decode cX6_writes 52 = .ok (.aload_n 0, 1) := by decide +kernel
theorem dX6_writes_53 : decode cX6_writes 53 = .ok (.getfield 23, 3) := by decide +kernel
theorem dX6_writes_56 : decode cX6_writes 56 = .ok (.iload_n 2, 1) := by decide +kernel
theorem dX6_writes_57 : decode cX6_writes 57 = .ok (.iconst 4, 1) := by decide +kernel
theorem dX6_writes_58 : decode cX6_writes 58 = .ok (.iadd, 1) := by decide +kernel
theorem dX6_writes_59 : decode cX6_writes 59 = .ok (.aload_n 0, 1) := by decide +kernel
theorem dX6_writes_60 : decode cX6_writes 60 = .ok (.getfield 50, 3) := by decide +kernel
theorem dX6_writes_63 : decode cX6_writes 63 = .ok (.iastore, 1) := by decide +kernel
theorem dX6_writes_64 : decode cX6_writes 64 = .ok (.aload_n 0, 1) := by decide +kernel
theorem dX6_writes_65 : decode cX6_writes 65 = .ok (.getfield 23, 3) := by decide +kernel
theorem dX6_writes_68 : decode cX6_writes 68 = .ok (.iload_n 2, 1) := by decide +kernel
theorem dX6_writes_69 : decode cX6_writes 69 = .ok (.iconst 5, 1) := by decide +kernel
theorem dX6_writes_70 : decode cX6_writes 70 = .ok (.iadd, 1) := by decide +kernel
theorem dX6_writes_71 : decode cX6_writes 71 = .ok (.aload_n 0, 1) := by decide +kernel
theorem dX6_writes_72 : decode cX6_writes 72 = .ok (.getfield 53, 3) := by decide +kernel
theorem dX6_writes_75 : decode cX6_writes 75 = .ok (.iastore, 1) := by decide +kernel
theorem dX6_writes_76 : decode cX6_writes 76 = .ok (.iconst 0, 1) := by decide +kernel
theorem dX6_writes_77 : decode cX6_writes 77 = .ok (.istore_n 3, 1) := by decide +kernel
theorem dX6_writes_78 : decode cX6_writes 78 = .ok (.iload_n 3, 1) := by decide +kernel
theorem dX6_writes_79 : decode cX6_writes 79 = .ok (.sipush 512, 3) := by decide +kernel
theorem dX6_writes_82 : decode cX6_writes 82 = .ok (.if_icmp .ge 26, 3) := by decide +kernel
theorem dX6_writes_85 : decode cX6_writes 85 = .ok (.aload_n 0, 1) := by decide +kernel
theorem dX6_writes_86 : decode cX6_writes 86 = .ok (.getfield 23, 3) := by decide +kernel
theorem dX6_writes_89 : decode cX6_writes 89 = .ok (.iload_n 2, 1) := by decide +kernel
theorem dX6_writes_90 : decode cX6_writes 90 = .ok (.bipush 8, 2) := by decide +kernel
theorem dX6_writes_92 : decode cX6_writes 92 = .ok (.iadd, 1) := by decide +kernel
theorem dX6_writes_93 : decode cX6_writes 93 = .ok (.iload_n 3, 1) := by decide +kernel
theorem dX6_writes_94 : decode cX6_writes 94 = .ok (.iadd, 1) := by decide +kernel
theorem dX6_writes_95 : decode cX6_writes 95 = .ok (.aload_n 0, 1) := by decide +kernel
theorem dX6_writes_96 : decode cX6_writes 96 = .ok (.getfield 19, 3) := by decide +kernel
theorem dX6_writes_99 : decode cX6_writes 99 = .ok (.iload_n 3, 1) := by decide +kernel
theorem dX6_writes_100 : decode cX6_writes 100 = .ok (.iaload, 1) := by decide +kernel
theorem dX6_writes_101 : decode cX6_writes 101 = .ok (.iastore, 1) := by decide +kernel
theorem dX6_writes_102 : decode cX6_writes 102 = .ok (.iinc 3 1, 3) := by decide +kernel
theorem dX6_writes_105 : decode cX6_writes 105 = .ok (.goto (-27), 3) := by decide +kernel
theorem dX6_writes_108 : decode cX6_writes 108 = .ok (.return_, 1) := by decide +kernel
theorem dX6_comesBack_0 : decode cX6_comesBack 0 = .ok (.sipush 520, 3) := by decide +kernel
theorem dX6_comesBack_3 : decode cX6_comesBack 3 = .ok (.iload_n 1, 1) := by decide +kernel
theorem dX6_comesBack_4 : decode cX6_comesBack 4 = .ok (.imul, 1) := by decide +kernel
theorem dX6_comesBack_5 : decode cX6_comesBack 5 = .ok (.istore_n 2, 1) := by decide +kernel
theorem dX6_comesBack_6 : decode cX6_comesBack 6 = .ok (.aload_n 0, 1) := by decide +kernel
theorem dX6_comesBack_7 : decode cX6_comesBack 7 = .ok (.aload_n 0, 1) := by decide +kernel
theorem dX6_comesBack_8 : decode cX6_comesBack 8 = .ok (.getfield 23, 3) := by decide +kernel
theorem dX6_comesBack_11 : decode cX6_comesBack 11 = .ok (.iload_n 2, 1) := by decide +kernel
theorem dX6_comesBack_12 : decode cX6_comesBack 12 = .ok (.iaload, 1) := by decide +kernel
theorem dX6_comesBack_13 : decode cX6_comesBack 13 = .ok (.putfield 7, 3) := by decide +kernel
theorem dX6_comesBack_16 : decode cX6_comesBack 16 = .ok (.aload_n 0, 1) := by decide +kernel
theorem dX6_comesBack_17 : decode cX6_comesBack 17 = .ok (.aload_n 0, 1) := by decide +kernel
theorem dX6_comesBack_18 : decode cX6_comesBack 18 = .ok (.getfield 23, 3) := by decide +kernel
theorem dX6_comesBack_21 : decode cX6_comesBack 21 = .ok (.iload_n 2, 1) := by decide +kernel
theorem dX6_comesBack_22 : decode cX6_comesBack 22 = .ok (.iconst 1, 1) := by decide +kernel
theorem dX6_comesBack_23 : decode cX6_comesBack 23 = .ok (.iadd, 1) := by decide +kernel
theorem dX6_comesBack_24 : decode cX6_comesBack 24 = .ok (.iaload, 1) := by decide +kernel
theorem dX6_comesBack_25 : decode cX6_comesBack 25 = .ok (.putfield 13, 3) := by decide +kernel
theorem dX6_comesBack_28 : decode cX6_comesBack 28 = .ok (.aload_n 0, 1) := by decide +kernel
theorem dX6_comesBack_29 : decode cX6_comesBack 29 = .ok (.aload_n 0, 1) := by decide +kernel
theorem dX6_comesBack_30 : decode cX6_comesBack 30 = .ok (.getfield 23, 3) := by decide +kernel
theorem dX6_comesBack_33 : decode cX6_comesBack 33 = .ok (.iload_n 2, 1) := by decide +kernel
theorem dX6_comesBack_34 : decode cX6_comesBack 34 = .ok (.iconst 2, 1) := by decide +kernel
theorem dX6_comesBack_35 : decode cX6_comesBack 35 = .ok (.iadd, 1) := by decide +kernel
theorem dX6_comesBack_36 : decode cX6_comesBack 36 = .ok (.iaload, 1) := by decide +kernel
theorem dX6_comesBack_37 : decode cX6_comesBack 37 = .ok (.putfield 16, 3) := by decide +kernel
theorem dX6_comesBack_40 : decode cX6_comesBack 40 = .ok (.aload_n 0, 1) := by decide +kernel
theorem dX6_comesBack_41 : decode cX6_comesBack 41 = .ok (.aload_n 0, 1) := by decide +kernel
theorem dX6_comesBack_42 : decode cX6_comesBack 42 = .ok (.getfield 23, 3) := by decide +kernel
theorem dX6_comesBack_45 : decode cX6_comesBack 45 = .ok (.iload_n 2, 1) := by decide +kernel
theorem dX6_comesBack_46 : decode cX6_comesBack 46 = .ok (.iconst 3, 1) := by decide +kernel
theorem dX6_comesBack_47 : decode cX6_comesBack 47 = .ok (.iadd, 1) := by decide +kernel
theorem dX6_comesBack_48 : decode cX6_comesBack 48 = .ok (.iaload, 1) := by decide +kernel
theorem dX6_comesBack_49 : decode cX6_comesBack 49 = .ok (.putfield 47, 3) := by decide +kernel
theorem dX6_comesBack_52 : decode cX6_comesBack 52 = .ok (.aload_n 0, 1) := by decide +kernel
theorem dX6_comesBack_53 : decode cX6_comesBack 53 = .ok (.aload_n 0, 1) := by decide +kernel
theorem dX6_comesBack_54 : decode cX6_comesBack 54 = .ok (.getfield 23, 3) := by decide +kernel
theorem dX6_comesBack_57 : decode cX6_comesBack 57 = .ok (.iload_n 2, 1) := by decide +kernel
theorem dX6_comesBack_58 : decode cX6_comesBack 58 = .ok (.iconst 4, 1) := by decide +kernel
theorem dX6_comesBack_59 : decode cX6_comesBack 59 = .ok (.iadd, 1) := by decide +kernel
theorem dX6_comesBack_60 : decode cX6_comesBack 60 = .ok (.iaload, 1) := by decide +kernel
theorem dX6_comesBack_61 : decode cX6_comesBack 61 = .ok (.putfield 50, 3) := by decide +kernel
theorem dX6_comesBack_64 : decode cX6_comesBack 64 = .ok (.aload_n 0, 1) := by decide +kernel
theorem dX6_comesBack_65 : decode cX6_comesBack 65 = .ok (.aload_n 0, 1) := by decide +kernel
theorem dX6_comesBack_66 : decode cX6_comesBack 66 = .ok (.getfield 23, 3) := by decide +kernel
theorem dX6_comesBack_69 : decode cX6_comesBack 69 = .ok (.iload_n 2, 1) := by decide +kernel
theorem dX6_comesBack_70 : decode cX6_comesBack 70 = .ok (.iconst 5, 1) := by decide +kernel
theorem dX6_comesBack_71 : decode cX6_comesBack 71 = .ok (.iadd, 1) := by decide +kernel
theorem dX6_comesBack_72 : decode cX6_comesBack 72 = .ok (.iaload, 1) := by decide +kernel
theorem dX6_comesBack_73 : decode cX6_comesBack 73 = .ok (.putfield 53, 3) := by decide +kernel
theorem dX6_comesBack_76 : decode cX6_comesBack 76 = .ok (.iconst 0, 1) := by decide +kernel
theorem dX6_comesBack_77 : decode cX6_comesBack 77 = .ok (.istore_n 3, 1) := by decide +kernel
theorem dX6_comesBack_78 : decode cX6_comesBack 78 = .ok (.iload_n 3, 1) := by decide +kernel
theorem dX6_comesBack_79 : decode cX6_comesBack 79 = .ok (.sipush 512, 3) := by decide +kernel
theorem dX6_comesBack_82 : decode cX6_comesBack 82 = .ok (.if_icmp .ge 26, 3) := by decide +kernel
theorem dX6_comesBack_85 : decode cX6_comesBack 85 = .ok (.aload_n 0, 1) := by decide +kernel
theorem dX6_comesBack_86 : decode cX6_comesBack 86 = .ok (.getfield 19, 3) := by decide +kernel
theorem dX6_comesBack_89 : decode cX6_comesBack 89 = .ok (.iload_n 3, 1) := by decide +kernel
theorem dX6_comesBack_90 : decode cX6_comesBack 90 = .ok (.aload_n 0, 1) := by decide +kernel
theorem dX6_comesBack_91 : decode cX6_comesBack 91 = .ok (.getfield 23, 3) := by decide +kernel
theorem dX6_comesBack_94 : decode cX6_comesBack 94 = .ok (.iload_n 2, 1) := by decide +kernel
theorem dX6_comesBack_95 : decode cX6_comesBack 95 = .ok (.bipush 8, 2) := by decide +kernel
theorem dX6_comesBack_97 : decode cX6_comesBack 97 = .ok (.iadd, 1) := by decide +kernel
theorem dX6_comesBack_98 : decode cX6_comesBack 98 = .ok (.iload_n 3, 1) := by decide +kernel
theorem dX6_comesBack_99 : decode cX6_comesBack 99 = .ok (.iadd, 1) := by decide +kernel
theorem dX6_comesBack_100 : decode cX6_comesBack 100 = .ok (.iaload, 1) := by decide +kernel
theorem dX6_comesBack_101 : decode cX6_comesBack 101 = .ok (.iastore, 1) := by decide +kernel
theorem dX6_comesBack_102 : decode cX6_comesBack 102 = .ok (.iinc 3 1, 3) := by decide +kernel
theorem dX6_comesBack_105 : decode cX6_comesBack 105 = .ok (.goto (-27), 3) := by decide +kernel
theorem dX6_comesBack_108 : decode cX6_comesBack 108 = .ok (.return_, 1) := by decide +kernel
theorem dX6_notes_0 : decode cX6_notes 0 = .ok (.aload_n 0, 1) := by decide +kernel
theorem dX6_notes_1 : decode cX6_notes 1 = .ok (.getfield 56, 3) := by decide +kernel
theorem dX6_notes_4 : decode cX6_notes 4 = .ok (.bipush 10, 2) := by decide +kernel
theorem dX6_notes_6 : decode cX6_notes 6 = .ok (.if_icmp .ne 44, 3) := by decide +kernel
theorem dX6_notes_9 : decode cX6_notes 9 = .ok (.iconst 0, 1) := by decide +kernel
theorem dX6_notes_10 : decode cX6_notes 10 = .ok (.istore_n 1, 1) := by decide +kernel
theorem dX6_notes_11 : decode cX6_notes 11 = .ok (.iload_n 1, 1) := by decide +kernel
theorem dX6_notes_12 : decode cX6_notes 12 = .ok (.sipush 4680, 3) := by decide +kernel
theorem dX6_notes_15 : decode cX6_notes 15 = .ok (.if_icmp .ge 25, 3) := by decide +kernel
theorem dX6_notes_18 : decode cX6_notes 18 = .ok (.aload_n 0, 1) := by decide +kernel
theorem dX6_notes_19 : decode cX6_notes 19 = .ok (.getfield 23, 3) := by decide +kernel
theorem dX6_notes_22 : decode cX6_notes 22 = .ok (.iload_n 1, 1) := by decide +kernel
theorem dX6_notes_23 : decode cX6_notes 23 = .ok (.aload_n 0, 1) := by decide +kernel
theorem dX6_notes_24 : decode cX6_notes 24 = .ok (.getfield 23, 3) := by decide +kernel
theorem dX6_notes_27 : decode cX6_notes 27 = .ok (.iload_n 1, 1) := by decide +kernel
theorem dX6_notes_28 : decode cX6_notes 28 = .ok (.sipush 520, 3) := by decide +kernel
theorem dX6_notes_31 : decode cX6_notes 31 = .ok (.iadd, 1) := by decide +kernel
theorem dX6_notes_32 : decode cX6_notes 32 = .ok (.iaload, 1) := by decide +kernel
theorem dX6_notes_33 : decode cX6_notes 33 = .ok (.iastore, 1) := by decide +kernel
theorem dX6_notes_34 : decode cX6_notes 34 = .ok (.iinc 1 1, 3) := by decide +kernel
theorem dX6_notes_37 : decode cX6_notes 37 = .ok (.goto (-26), 3) := by decide +kernel
theorem dX6_notes_40 : decode cX6_notes 40 = .ok (.aload_n 0, 1) := by decide +kernel
theorem dX6_notes_41 : decode cX6_notes 41 = .ok (.dup, 1) := by decide +kernel
theorem dX6_notes_42 : decode cX6_notes 42 = .ok (.getfield 56, 3) := by decide +kernel
theorem dX6_notes_45 : decode cX6_notes 45 = .ok (.iconst 1, 1) := by decide +kernel
theorem dX6_notes_46 : decode cX6_notes 46 = .ok (.isub, 1) := by decide +kernel
theorem dX6_notes_47 : decode cX6_notes 47 = .ok (.putfield 56, 3) := by decide +kernel
theorem dX6_notes_50 : decode cX6_notes 50 = .ok (.aload_n 0, 1) := by decide +kernel
theorem dX6_notes_51 : decode cX6_notes 51 = .ok (.aload_n 0, 1) := by decide +kernel
theorem dX6_notes_52 : decode cX6_notes 52 = .ok (.getfield 56, 3) := by decide +kernel
theorem dX6_notes_55 : decode cX6_notes 55 = .ok (.invokevirtual 59, 3) := by decide +kernel
theorem dX6_notes_58 : decode cX6_notes 58 = .ok (.aload_n 0, 1) := by decide +kernel
theorem dX6_notes_59 : decode cX6_notes 59 = .ok (.dup, 1) := by decide +kernel
theorem dX6_notes_60 : decode cX6_notes 60 = .ok (.getfield 56, 3) := by decide +kernel
theorem dX6_notes_63 : decode cX6_notes 63 = .ok (.iconst 1, 1) := by decide +kernel
theorem dX6_notes_64 : decode cX6_notes 64 = .ok (.iadd, 1) := by decide +kernel
theorem dX6_notes_65 : decode cX6_notes 65 = .ok (.putfield 56, 3) := by decide +kernel
theorem dX6_notes_68 : decode cX6_notes 68 = .ok (.return_, 1) := by decide +kernel
theorem dX6_of_0 : decode cX6_of 0 = .ok (.aload_n 0, 1) := by decide +kernel
theorem dX6_of_1 : decode cX6_of 1 = .ok (.getfield 19, 3) := by decide +kernel
theorem dX6_of_4 : decode cX6_of 4 = .ok (.bipush 8, 2) := by decide +kernel
theorem dX6_of_6 : decode cX6_of 6 = .ok (.iload_n 1, 1) := by decide +kernel
theorem dX6_of_7 : decode cX6_of 7 = .ok (.imul, 1) := by decide +kernel
theorem dX6_of_8 : decode cX6_of 8 = .ok (.iload_n 2, 1) := by decide +kernel
theorem dX6_of_9 : decode cX6_of 9 = .ok (.iadd, 1) := by decide +kernel
theorem dX6_of_10 : decode cX6_of 10 = .ok (.iaload, 1) := by decide +kernel
theorem dX6_of_11 : decode cX6_of 11 = .ok (.ireturn, 1) := by decide +kernel
theorem dX6_sets_0 : decode cX6_sets 0 = .ok (.aload_n 0, 1) := by decide +kernel
theorem dX6_sets_1 : decode cX6_sets 1 = .ok (.getfield 19, 3) := by decide +kernel
theorem dX6_sets_4 : decode cX6_sets 4 = .ok (.bipush 8, 2) := by decide +kernel
theorem dX6_sets_6 : decode cX6_sets 6 = .ok (.iload_n 1, 1) := by decide +kernel
theorem dX6_sets_7 : decode cX6_sets 7 = .ok (.imul, 1) := by decide +kernel
theorem dX6_sets_8 : decode cX6_sets 8 = .ok (.iload_n 2, 1) := by decide +kernel
theorem dX6_sets_9 : decode cX6_sets 9 = .ok (.iadd, 1) := by decide +kernel
theorem dX6_sets_10 : decode cX6_sets 10 = .ok (.iload_n 3, 1) := by decide +kernel
theorem dX6_sets_11 : decode cX6_sets 11 = .ok (.iastore, 1) := by decide +kernel
theorem dX6_sets_12 : decode cX6_sets 12 = .ok (.return_, 1) := by decide +kernel
theorem dX6_tells_0 : decode cX6_tells 0 = .ok (.iload_n 1, 1) := by decide +kernel
theorem dX6_tells_1 : decode cX6_tells 1 = .ok (.iconst 1, 1) := by decide +kernel
theorem dX6_tells_2 : decode cX6_tells 2 = .ok (.iconst 3, 1) := by decide +kernel
theorem dX6_tells_3 : decode cX6_tells 3 = .ok (.invokestatic 63, 3) := by decide +kernel
theorem dX6_tells_6 : decode cX6_tells 6 = .ok (.ifCond .eq 23, 3) := by decide +kernel
theorem dX6_tells_9 : decode cX6_tells 9 = .ok (.iload_n 2, 1) := by decide +kernel
theorem dX6_tells_10 : decode cX6_tells 10 = .ok (.iconst 0, 1) := by decide +kernel
theorem dX6_tells_11 : decode cX6_tells 11 = .ok (.bipush 8, 2) := by decide +kernel
theorem dX6_tells_13 : decode cX6_tells 13 = .ok (.invokestatic 63, 3) := by decide +kernel
theorem dX6_tells_16 : decode cX6_tells 16 = .ok (.ifCond .eq 13, 3) := by decide +kernel
theorem dX6_tells_19 : decode cX6_tells 19 = .ok (.iload_n 3, 1) := by decide +kernel
theorem dX6_tells_20 : decode cX6_tells 20 = .ok (.iconst 0, 1) := by decide +kernel
theorem dX6_tells_21 : decode cX6_tells 21 = .ok (.bipush 24, 2) := by decide +kernel
theorem dX6_tells_23 : decode cX6_tells 23 = .ok (.invokestatic 63, 3) := by decide +kernel
theorem dX6_tells_26 : decode cX6_tells 26 = .ok (.ifCond .ne 5, 3) := by decide +kernel
theorem dX6_tells_29 : decode cX6_tells 29 = .ok (.iconst (-1), 1) := by decide +kernel
theorem dX6_tells_30 : decode cX6_tells 30 = .ok (.ireturn, 1) := by decide +kernel
theorem dX6_tells_31 : decode cX6_tells 31 = .ok (.iload_n 1, 1) := by decide +kernel
theorem dX6_tells_32 : decode cX6_tells 32 = .ok (.aload_n 0, 1) := by decide +kernel
theorem dX6_tells_33 : decode cX6_tells 33 = .ok (.getfield 7, 3) := by decide +kernel
theorem dX6_tells_36 : decode cX6_tells 36 = .ok (.if_icmp .ne 22, 3) := by decide +kernel
theorem dX6_tells_39 : decode cX6_tells 39 = .ok (.iload_n 2, 1) := by decide +kernel
theorem dX6_tells_40 : decode cX6_tells 40 = .ok (.aload_n 0, 1) := by decide +kernel
theorem dX6_tells_41 : decode cX6_tells 41 = .ok (.getfield 13, 3) := by decide +kernel
theorem dX6_tells_44 : decode cX6_tells 44 = .ok (.if_icmp .ne 14, 3) := by decide +kernel
theorem dX6_tells_47 : decode cX6_tells 47 = .ok (.iload_n 3, 1) := by decide +kernel
theorem dX6_tells_48 : decode cX6_tells 48 = .ok (.aload_n 0, 1) := by decide +kernel
theorem dX6_tells_49 : decode cX6_tells 49 = .ok (.getfield 16, 3) := by decide +kernel
theorem dX6_tells_52 : decode cX6_tells 52 = .ok (.if_icmp .ne 6, 3) := by decide +kernel
theorem dX6_tells_55 : decode cX6_tells 55 = .ok (.bipush (-2), 2) := by decide +kernel
theorem dX6_tells_57 : decode cX6_tells 57 = .ok (.ireturn, 1) := by decide +kernel
theorem dX6_tells_58 : decode cX6_tells 58 = .ok (.aload_n 0, 1) := by decide +kernel
theorem dX6_tells_59 : decode cX6_tells 59 = .ok (.invokevirtual 67, 3) := by decide +kernel
theorem dX6_tells_62 : decode cX6_tells 62 = .ok (.aload_n 0, 1) := by decide +kernel
theorem dX6_tells_63 : decode cX6_tells 63 = .ok (.iload_n 1, 1) := by decide +kernel
theorem dX6_tells_64 : decode cX6_tells 64 = .ok (.putfield 7, 3) := by decide +kernel
theorem dX6_tells_67 : decode cX6_tells 67 = .ok (.aload_n 0, 1) := by decide +kernel
theorem dX6_tells_68 : decode cX6_tells 68 = .ok (.iload_n 2, 1) := by decide +kernel
theorem dX6_tells_69 : decode cX6_tells 69 = .ok (.putfield 13, 3) := by decide +kernel
theorem dX6_tells_72 : decode cX6_tells 72 = .ok (.aload_n 0, 1) := by decide +kernel
theorem dX6_tells_73 : decode cX6_tells 73 = .ok (.iload_n 3, 1) := by decide +kernel
theorem dX6_tells_74 : decode cX6_tells 74 = .ok (.putfield 16, 3) := by decide +kernel
theorem dX6_tells_77 : decode cX6_tells 77 = .ok (.iconst 1, 1) := by decide +kernel
theorem dX6_tells_78 : decode cX6_tells 78 = .ok (.ireturn, 1) := by decide +kernel
theorem dX6_isLine_0 : decode cX6_isLine 0 = .ok (.iload_n 0, 1) := by decide +kernel
theorem dX6_isLine_1 : decode cX6_isLine 1 = .ok (.iconst 0, 1) := by decide +kernel
theorem dX6_isLine_2 : decode cX6_isLine 2 = .ok (.bipush 7, 2) := by decide +kernel
theorem dX6_isLine_4 : decode cX6_isLine 4 = .ok (.invokestatic 63, 3) := by decide +kernel
theorem dX6_isLine_7 : decode cX6_isLine 7 = .ok (.ireturn, 1) := by decide +kernel
theorem dX6_atLine_0 : decode cX6_atLine 0 = .ok (.iconst 0, 1) := by decide +kernel
theorem dX6_atLine_1 : decode cX6_atLine 1 = .ok (.istore_n 2, 1) := by decide +kernel
theorem dX6_atLine_2 : decode cX6_atLine 2 = .ok (.iload_n 2, 1) := by decide +kernel
theorem dX6_atLine_3 : decode cX6_atLine 3 = .ok (.aload_n 0, 1) := by decide +kernel
theorem dX6_atLine_4 : decode cX6_atLine 4 = .ok (.getfield 50, 3) := by decide +kernel
theorem dX6_atLine_7 : decode cX6_atLine 7 = .ok (.if_icmp .ge 30, 3) := by decide +kernel
theorem dX6_atLine_10 : decode cX6_atLine 10 = .ok (.aload_n 0, 1) := by decide +kernel
theorem dX6_atLine_11 : decode cX6_atLine 11 = .ok (.iload_n 2, 1) := by decide +kernel
theorem dX6_atLine_12 : decode cX6_atLine 12 = .ok (.iconst 0, 1) := by decide +kernel
theorem dX6_atLine_13 : decode cX6_atLine 13 = .ok (.invokevirtual 70, 3) := by decide +kernel
theorem dX6_atLine_16 : decode cX6_atLine 16 = .ok (.ifCond .ne 15, 3) := by decide +kernel
theorem dX6_atLine_19 : decode cX6_atLine 19 = .ok (.aload_n 0, 1) := by decide +kernel
theorem dX6_atLine_20 : decode cX6_atLine 20 = .ok (.iload_n 2, 1) := by decide +kernel
theorem dX6_atLine_21 : decode cX6_atLine 21 = .ok (.iconst 1, 1) := by decide +kernel
theorem dX6_atLine_22 : decode cX6_atLine 22 = .ok (.invokevirtual 70, 3) := by decide +kernel
theorem dX6_atLine_25 : decode cX6_atLine 25 = .ok (.iload_n 1, 1) := by decide +kernel
theorem dX6_atLine_26 : decode cX6_atLine 26 = .ok (.if_icmp .ne 5, 3) := by decide +kernel
theorem dX6_atLine_29 : decode cX6_atLine 29 = .ok (.iload_n 2, 1) := by decide +kernel
theorem dX6_atLine_30 : decode cX6_atLine 30 = .ok (.ireturn, 1) := by decide +kernel
theorem dX6_atLine_31 : decode cX6_atLine 31 = .ok (.iinc 2 1, 3) := by decide +kernel
theorem dX6_atLine_34 : decode cX6_atLine 34 = .ok (.goto (-32), 3) := by decide +kernel
theorem dX6_atLine_37 : decode cX6_atLine 37 = .ok (.bipush (-9), 2) := by decide +kernel
theorem dX6_atLine_39 : decode cX6_atLine 39 = .ok (.ireturn, 1) := by decide +kernel
theorem dX6_puts_0 : decode cX6_puts 0 = .ok (.iload_n 1, 1) := by decide +kernel
theorem dX6_puts_1 : decode cX6_puts 1 = .ok (.invokestatic 74, 3) := by decide +kernel
theorem dX6_puts_4 : decode cX6_puts 4 = .ok (.ifCond .eq 19, 3) := by decide +kernel
theorem dX6_puts_7 : decode cX6_puts 7 = .ok (.iload_n 2, 1) := by decide +kernel
theorem dX6_puts_8 : decode cX6_puts 8 = .ok (.invokestatic 74, 3) := by decide +kernel
theorem dX6_puts_11 : decode cX6_puts 11 = .ok (.ifCond .eq 12, 3) := by decide +kernel
theorem dX6_puts_14 : decode cX6_puts 14 = .ok (.iload_n 3, 1) := by decide +kernel
theorem dX6_puts_15 : decode cX6_puts 15 = .ok (.iconst 0, 1) := by decide +kernel
theorem dX6_puts_16 : decode cX6_puts 16 = .ok (.iconst 3, 1) := by decide +kernel
theorem dX6_puts_17 : decode cX6_puts 17 = .ok (.invokestatic 63, 3) := by decide +kernel
theorem dX6_puts_20 : decode cX6_puts 20 = .ok (.ifCond .ne 5, 3) := by decide +kernel
theorem dX6_puts_23 : decode cX6_puts 23 = .ok (.iconst (-1), 1) := by decide +kernel
theorem dX6_puts_24 : decode cX6_puts 24 = .ok (.ireturn, 1) := by decide +kernel
theorem dX6_puts_25 : decode cX6_puts 25 = .ok (.aload_n 0, 1) := by decide +kernel
theorem dX6_puts_26 : decode cX6_puts 26 = .ok (.iload_n 1, 1) := by decide +kernel
theorem dX6_puts_27 : decode cX6_puts 27 = .ok (.invokevirtual 78, 3) := by decide +kernel
theorem dX6_puts_30 : decode cX6_puts 30 = .ok (.bipush (-9), 2) := by decide +kernel
theorem dX6_puts_32 : decode cX6_puts 32 = .ok (.if_icmp .eq 6, 3) := by decide +kernel
theorem dX6_puts_35 : decode cX6_puts 35 = .ok (.bipush (-2), 2) := by decide +kernel
theorem dX6_puts_37 : decode cX6_puts 37 = .ok (.ireturn, 1) := by decide +kernel
theorem dX6_puts_38 : decode cX6_puts 38 = .ok (.aload_n 0, 1) := by decide +kernel
theorem dX6_puts_39 : decode cX6_puts 39 = .ok (.getfield 50, 3) := by decide +kernel
theorem dX6_puts_42 : decode cX6_puts 42 = .ok (.bipush 64, 2) := by decide +kernel
theorem dX6_puts_44 : decode cX6_puts 44 = .ok (.if_icmp .ne 6, 3) := by decide +kernel
theorem dX6_puts_47 : decode cX6_puts 47 = .ok (.bipush (-3), 2) := by decide +kernel
theorem dX6_puts_49 : decode cX6_puts 49 = .ok (.ireturn, 1) := by decide +kernel
theorem dX6_puts_50 : decode cX6_puts 50 = .ok (.aload_n 0, 1) := by decide +kernel
theorem dX6_puts_51 : decode cX6_puts 51 = .ok (.invokevirtual 67, 3) := by decide +kernel
theorem dX6_puts_54 : decode cX6_puts 54 = .ok (.aload_n 0, 1) := by decide +kernel
theorem dX6_puts_55 : decode cX6_puts 55 = .ok (.aload_n 0, 1) := by decide +kernel
theorem dX6_puts_56 : decode cX6_puts 56 = .ok (.getfield 50, 3) := by decide +kernel
theorem dX6_puts_59 : decode cX6_puts 59 = .ok (.iconst 0, 1) := by decide +kernel
theorem dX6_puts_60 : decode cX6_puts 60 = .ok (.iconst 0, 1) := by decide +kernel
theorem dX6_puts_61 : decode cX6_puts 61 = .ok (.invokevirtual 82, 3) := by decide +kernel
theorem dX6_puts_64 : decode cX6_puts 64 = .ok (.aload_n 0, 1) := by decide +kernel
theorem dX6_puts_65 : decode cX6_puts 65 = .ok (.aload_n 0, 1) := by decide +kernel
theorem dX6_puts_66 : decode cX6_puts 66 = .ok (.getfield 50, 3) := by decide +kernel
theorem dX6_puts_69 : decode cX6_puts 69 = .ok (.iconst 1, 1) := by decide +kernel
theorem dX6_puts_70 : decode cX6_puts 70 = .ok (.iload_n 1, 1) := by decide +kernel
theorem dX6_puts_71 : decode cX6_puts 71 = .ok (.invokevirtual 82, 3) := by decide +kernel
theorem dX6_puts_74 : decode cX6_puts 74 = .ok (.aload_n 0, 1) := by decide +kernel
theorem dX6_puts_75 : decode cX6_puts 75 = .ok (.aload_n 0, 1) := by decide +kernel
theorem dX6_puts_76 : decode cX6_puts 76 = .ok (.getfield 50, 3) := by decide +kernel
theorem dX6_puts_79 : decode cX6_puts 79 = .ok (.iconst 2, 1) := by decide +kernel
theorem dX6_puts_80 : decode cX6_puts 80 = .ok (.iload_n 2, 1) := by decide +kernel
theorem dX6_puts_81 : decode cX6_puts 81 = .ok (.invokevirtual 82, 3) := by decide +kernel
theorem dX6_puts_84 : decode cX6_puts 84 = .ok (.aload_n 0, 1) := by decide +kernel
theorem dX6_puts_85 : decode cX6_puts 85 = .ok (.aload_n 0, 1) := by decide +kernel
theorem dX6_puts_86 : decode cX6_puts 86 = .ok (.getfield 50, 3) := by decide +kernel
theorem dX6_puts_89 : decode cX6_puts 89 = .ok (.iconst 3, 1) := by decide +kernel
theorem dX6_puts_90 : decode cX6_puts 90 = .ok (.iload_n 3, 1) := by decide +kernel
theorem dX6_puts_91 : decode cX6_puts 91 = .ok (.invokevirtual 82, 3) := by decide +kernel
theorem dX6_puts_94 : decode cX6_puts 94 = .ok (.aload_n 0, 1) := by decide +kernel
theorem dX6_puts_95 : decode cX6_puts 95 = .ok (.aload_n 0, 1) := by decide +kernel
theorem dX6_puts_96 : decode cX6_puts 96 = .ok (.getfield 50, 3) := by decide +kernel
theorem dX6_puts_99 : decode cX6_puts 99 = .ok (.iconst 4, 1) := by decide +kernel
theorem dX6_puts_100 : decode cX6_puts 100 = .ok (.aload_n 0, 1) := by decide +kernel
theorem dX6_puts_101 : decode cX6_puts 101 = .ok (.getfield 47, 3) := by decide +kernel
theorem dX6_puts_104 : decode cX6_puts 104 = .ok (.invokevirtual 82, 3) := by decide +kernel
theorem dX6_puts_107 : decode cX6_puts 107 = .ok (.aload_n 0, 1) := by decide +kernel
theorem dX6_puts_108 : decode cX6_puts 108 = .ok (.aload_n 0, 1) := by decide +kernel
theorem dX6_puts_109 : decode cX6_puts 109 = .ok (.getfield 50, 3) := by decide +kernel
theorem dX6_puts_112 : decode cX6_puts 112 = .ok (.iconst 5, 1) := by decide +kernel
theorem dX6_puts_113 : decode cX6_puts 113 = .ok (.bipush (-9), 2) := by decide +kernel
theorem dX6_puts_115 : decode cX6_puts 115 = .ok (.invokevirtual 82, 3) := by decide +kernel
theorem dX6_puts_118 : decode cX6_puts 118 = .ok (.aload_n 0, 1) := by decide +kernel
theorem dX6_puts_119 : decode cX6_puts 119 = .ok (.aload_n 0, 1) := by decide +kernel
theorem dX6_puts_120 : decode cX6_puts 120 = .ok (.getfield 50, 3) := by decide +kernel
theorem dX6_puts_123 : decode cX6_puts 123 = .ok (.bipush 6, 2) := by decide +kernel
theorem dX6_puts_125 : decode cX6_puts 125 = .ok (.iconst 0, 1) := by decide +kernel
theorem dX6_puts_126 : decode cX6_puts 126 = .ok (.invokevirtual 82, 3) := by decide +kernel
theorem dX6_puts_129 : decode cX6_puts 129 = .ok (.aload_n 0, 1) := by decide +kernel
theorem dX6_puts_130 : decode cX6_puts 130 = .ok (.aload_n 0, 1) := by decide +kernel
theorem dX6_puts_131 : decode cX6_puts 131 = .ok (.getfield 50, 3) := by decide +kernel
theorem dX6_puts_134 : decode cX6_puts 134 = .ok (.bipush 7, 2) := by decide +kernel
theorem dX6_puts_136 : decode cX6_puts 136 = .ok (.iconst 0, 1) := by decide +kernel
theorem dX6_puts_137 : decode cX6_puts 137 = .ok (.invokevirtual 82, 3) := by decide +kernel
theorem dX6_puts_140 : decode cX6_puts 140 = .ok (.aload_n 0, 1) := by decide +kernel
theorem dX6_puts_141 : decode cX6_puts 141 = .ok (.dup, 1) := by decide +kernel
theorem dX6_puts_142 : decode cX6_puts 142 = .ok (.getfield 50, 3) := by decide +kernel
theorem dX6_puts_145 : decode cX6_puts 145 = .ok (.iconst 1, 1) := by decide +kernel
theorem dX6_puts_146 : decode cX6_puts 146 = .ok (.iadd, 1) := by decide +kernel
theorem dX6_puts_147 : decode cX6_puts 147 = .ok (.putfield 50, 3) := by decide +kernel
theorem dX6_puts_150 : decode cX6_puts 150 = .ok (.aload_n 0, 1) := by decide +kernel
theorem dX6_puts_151 : decode cX6_puts 151 = .ok (.getfield 50, 3) := by decide +kernel
theorem dX6_puts_154 : decode cX6_puts 154 = .ok (.iconst 1, 1) := by decide +kernel
theorem dX6_puts_155 : decode cX6_puts 155 = .ok (.isub, 1) := by decide +kernel
theorem dX6_puts_156 : decode cX6_puts 156 = .ok (.ireturn, 1) := by decide +kernel
theorem dX6_isAhead_0 : decode cX6_isAhead 0 = .ok (.aload_n 0, 1) := by decide +kernel
theorem dX6_isAhead_1 : decode cX6_isAhead 1 = .ok (.iload_n 1, 1) := by decide +kernel
theorem dX6_isAhead_2 : decode cX6_isAhead 2 = .ok (.iconst 3, 1) := by decide +kernel
theorem dX6_isAhead_3 : decode cX6_isAhead 3 = .ok (.invokevirtual 70, 3) := by decide +kernel
theorem dX6_isAhead_6 : decode cX6_isAhead 6 = .ok (.aload_n 0, 1) := by decide +kernel
theorem dX6_isAhead_7 : decode cX6_isAhead 7 = .ok (.iload_n 2, 1) := by decide +kernel
theorem dX6_isAhead_8 : decode cX6_isAhead 8 = .ok (.iconst 3, 1) := by decide +kernel
theorem dX6_isAhead_9 : decode cX6_isAhead 9 = .ok (.invokevirtual 70, 3) := by decide +kernel
theorem dX6_isAhead_12 : decode cX6_isAhead 12 = .ok (.if_icmp .eq 26, 3) := by decide +kernel
theorem dX6_isAhead_15 : decode cX6_isAhead 15 = .ok (.aload_n 0, 1) := by decide +kernel
theorem dX6_isAhead_16 : decode cX6_isAhead 16 = .ok (.iload_n 1, 1) := by decide +kernel
theorem dX6_isAhead_17 : decode cX6_isAhead 17 = .ok (.iconst 3, 1) := by decide +kernel
theorem dX6_isAhead_18 : decode cX6_isAhead 18 = .ok (.invokevirtual 70, 3) := by decide +kernel
theorem dX6_isAhead_21 : decode cX6_isAhead 21 = .ok (.aload_n 0, 1) := by decide +kernel
theorem dX6_isAhead_22 : decode cX6_isAhead 22 = .ok (.iload_n 2, 1) := by decide +kernel
theorem dX6_isAhead_23 : decode cX6_isAhead 23 = .ok (.iconst 3, 1) := by decide +kernel
theorem dX6_isAhead_24 : decode cX6_isAhead 24 = .ok (.invokevirtual 70, 3) := by decide +kernel
theorem dX6_isAhead_27 : decode cX6_isAhead 27 = .ok (.if_icmp .le 7, 3) := by decide +kernel
theorem dX6_isAhead_30 : decode cX6_isAhead 30 = .ok (.iconst 1, 1) := by decide +kernel
theorem dX6_isAhead_31 : decode cX6_isAhead 31 = .ok (.goto 17, 3) := by decide +kernel
theorem dX6_isAhead_34 : decode cX6_isAhead 34 = .ok (.iconst 0, 1) := by decide +kernel
theorem dX6_isAhead_35 : decode cX6_isAhead 35 = .ok (.goto 13, 3) := by decide +kernel
theorem dX6_isAhead_38 : decode cX6_isAhead 38 = .ok (.iload_n 1, 1) := by decide +kernel
theorem dX6_isAhead_39 : decode cX6_isAhead 39 = .ok (.iload_n 2, 1) := by decide +kernel
theorem dX6_isAhead_40 : decode cX6_isAhead 40 = .ok (.if_icmp .ge 7, 3) := by decide +kernel
theorem dX6_isAhead_43 : decode cX6_isAhead 43 = .ok (.iconst 1, 1) := by decide +kernel
theorem dX6_isAhead_44 : decode cX6_isAhead 44 = .ok (.goto 4, 3) := by decide +kernel
theorem dX6_isAhead_47 : decode cX6_isAhead 47 = .ok (.iconst 0, 1) := by decide +kernel
theorem dX6_isAhead_48 : decode cX6_isAhead 48 = .ok (.ireturn, 1) := by decide +kernel
theorem dX6_manyAt_0 : decode cX6_manyAt 0 = .ok (.iconst 0, 1) := by decide +kernel
theorem dX6_manyAt_1 : decode cX6_manyAt 1 = .ok (.istore_n 2, 1) := by decide +kernel
theorem dX6_manyAt_2 : decode cX6_manyAt 2 = .ok (.iconst 0, 1) := by decide +kernel
theorem dX6_manyAt_3 : decode cX6_manyAt 3 = .ok (.istore_n 3, 1) := by decide +kernel
theorem dX6_manyAt_4 : decode cX6_manyAt 4 = .ok (.iload_n 3, 1) := by decide +kernel
theorem dX6_manyAt_5 : decode cX6_manyAt 5 = .ok (.aload_n 0, 1) := by decide +kernel
theorem dX6_manyAt_6 : decode cX6_manyAt 6 = .ok (.getfield 50, 3) := by decide +kernel
theorem dX6_manyAt_9 : decode cX6_manyAt 9 = .ok (.if_icmp .ge 27, 3) := by decide +kernel
theorem dX6_manyAt_12 : decode cX6_manyAt 12 = .ok (.iload_n 2, 1) := by decide +kernel
theorem dX6_manyAt_13 : decode cX6_manyAt 13 = .ok (.aload_n 0, 1) := by decide +kernel
theorem dX6_manyAt_14 : decode cX6_manyAt 14 = .ok (.iload_n 3, 1) := by decide +kernel
theorem dX6_manyAt_15 : decode cX6_manyAt 15 = .ok (.iconst 0, 1) := by decide +kernel
theorem dX6_manyAt_16 : decode cX6_manyAt 16 = .ok (.invokevirtual 70, 3) := by decide +kernel
theorem dX6_manyAt_19 : decode cX6_manyAt 19 = .ok (.iload_n 1, 1) := by decide +kernel
theorem dX6_manyAt_20 : decode cX6_manyAt 20 = .ok (.if_icmp .ne 7, 3) := by decide +kernel
theorem dX6_manyAt_23 : decode cX6_manyAt 23 = .ok (.iconst 1, 1) := by decide +kernel
theorem dX6_manyAt_24 : decode cX6_manyAt 24 = .ok (.goto 4, 3) := by decide +kernel
theorem dX6_manyAt_27 : decode cX6_manyAt 27 = .ok (.iconst 0, 1) := by decide +kernel
theorem dX6_manyAt_28 : decode cX6_manyAt 28 = .ok (.iadd, 1) := by decide +kernel
theorem dX6_manyAt_29 : decode cX6_manyAt 29 = .ok (.istore_n 2, 1) := by decide +kernel
theorem dX6_manyAt_30 : decode cX6_manyAt 30 = .ok (.iinc 3 1, 3) := by decide +kernel
theorem dX6_manyAt_33 : decode cX6_manyAt 33 = .ok (.goto (-29), 3) := by decide +kernel
theorem dX6_manyAt_36 : decode cX6_manyAt 36 = .ok (.iload_n 2, 1) := by decide +kernel
theorem dX6_manyAt_37 : decode cX6_manyAt 37 = .ok (.ireturn, 1) := by decide +kernel
theorem dX6_isIn_0 : decode cX6_isIn 0 = .ok (.aload_n 0, 1) := by decide +kernel
theorem dX6_isIn_1 : decode cX6_isIn 1 = .ok (.iload_n 1, 1) := by decide +kernel
theorem dX6_isIn_2 : decode cX6_isIn 2 = .ok (.iconst 0, 1) := by decide +kernel
theorem dX6_isIn_3 : decode cX6_isIn 3 = .ok (.invokevirtual 70, 3) := by decide +kernel
theorem dX6_isIn_6 : decode cX6_isIn 6 = .ok (.ifCond .eq 13, 3) := by decide +kernel
theorem dX6_isIn_9 : decode cX6_isIn 9 = .ok (.aload_n 0, 1) := by decide +kernel
theorem dX6_isIn_10 : decode cX6_isIn 10 = .ok (.iload_n 1, 1) := by decide +kernel
theorem dX6_isIn_11 : decode cX6_isIn 11 = .ok (.iconst 0, 1) := by decide +kernel
theorem dX6_isIn_12 : decode cX6_isIn 12 = .ok (.invokevirtual 70, 3) := by decide +kernel
theorem dX6_isIn_15 : decode cX6_isIn 15 = .ok (.iconst 1, 1) := by decide +kernel
theorem dX6_isIn_16 : decode cX6_isIn 16 = .ok (.if_icmp .ne 7, 3) := by decide +kernel
theorem dX6_isIn_19 : decode cX6_isIn 19 = .ok (.iconst 1, 1) := by decide +kernel
theorem dX6_isIn_20 : decode cX6_isIn 20 = .ok (.goto 4, 3) := by decide +kernel
theorem dX6_isIn_23 : decode cX6_isIn 23 = .ok (.iconst 0, 1) := by decide +kernel
theorem dX6_isIn_24 : decode cX6_isIn 24 = .ok (.ireturn, 1) := by decide +kernel
theorem dX6_isSooner_0 : decode cX6_isSooner 0 = .ok (.aload_n 0, 1) := by decide +kernel
theorem dX6_isSooner_1 : decode cX6_isSooner 1 = .ok (.iload_n 1, 1) := by decide +kernel
theorem dX6_isSooner_2 : decode cX6_isSooner 2 = .ok (.iconst 2, 1) := by decide +kernel
theorem dX6_isSooner_3 : decode cX6_isSooner 3 = .ok (.invokevirtual 70, 3) := by decide +kernel
theorem dX6_isSooner_6 : decode cX6_isSooner 6 = .ok (.aload_n 0, 1) := by decide +kernel
theorem dX6_isSooner_7 : decode cX6_isSooner 7 = .ok (.iload_n 2, 1) := by decide +kernel
theorem dX6_isSooner_8 : decode cX6_isSooner 8 = .ok (.iconst 2, 1) := by decide +kernel
theorem dX6_isSooner_9 : decode cX6_isSooner 9 = .ok (.invokevirtual 70, 3) := by decide +kernel
theorem dX6_isSooner_12 : decode cX6_isSooner 12 = .ok (.if_icmp .eq 26, 3) := by decide +kernel
theorem dX6_isSooner_15 : decode cX6_isSooner 15 = .ok (.aload_n 0, 1) := by decide +kernel
theorem dX6_isSooner_16 : decode cX6_isSooner 16 = .ok (.iload_n 1, 1) := by decide +kernel
theorem dX6_isSooner_17 : decode cX6_isSooner 17 = .ok (.iconst 2, 1) := by decide +kernel
theorem dX6_isSooner_18 : decode cX6_isSooner 18 = .ok (.invokevirtual 70, 3) := by decide +kernel
theorem dX6_isSooner_21 : decode cX6_isSooner 21 = .ok (.aload_n 0, 1) := by decide +kernel
theorem dX6_isSooner_22 : decode cX6_isSooner 22 = .ok (.iload_n 2, 1) := by decide +kernel
theorem dX6_isSooner_23 : decode cX6_isSooner 23 = .ok (.iconst 2, 1) := by decide +kernel
theorem dX6_isSooner_24 : decode cX6_isSooner 24 = .ok (.invokevirtual 70, 3) := by decide +kernel
theorem dX6_isSooner_27 : decode cX6_isSooner 27 = .ok (.if_icmp .ge 7, 3) := by decide +kernel
theorem dX6_isSooner_30 : decode cX6_isSooner 30 = .ok (.iconst 1, 1) := by decide +kernel
theorem dX6_isSooner_31 : decode cX6_isSooner 31 = .ok (.goto 13, 3) := by decide +kernel
theorem dX6_isSooner_34 : decode cX6_isSooner 34 = .ok (.iconst 0, 1) := by decide +kernel
theorem dX6_isSooner_35 : decode cX6_isSooner 35 = .ok (.goto 9, 3) := by decide +kernel
theorem dX6_isSooner_38 : decode cX6_isSooner 38 = .ok (.aload_n 0, 1) := by decide +kernel
theorem dX6_isSooner_39 : decode cX6_isSooner 39 = .ok (.iload_n 1, 1) := by decide +kernel
theorem dX6_isSooner_40 : decode cX6_isSooner 40 = .ok (.iload_n 2, 1) := by decide +kernel
theorem dX6_isSooner_41 : decode cX6_isSooner 41 = .ok (.invokevirtual 86, 3) := by decide +kernel
theorem dX6_isSooner_44 : decode cX6_isSooner 44 = .ok (.ireturn, 1) := by decide +kernel
theorem dX6_sorts_0 : decode cX6_sorts 0 = .ok (.aload_n 0, 1) := by decide +kernel
theorem dX6_sorts_1 : decode cX6_sorts 1 = .ok (.iconst 0, 1) := by decide +kernel
theorem dX6_sorts_2 : decode cX6_sorts 2 = .ok (.putfield 90, 3) := by decide +kernel
theorem dX6_sorts_5 : decode cX6_sorts 5 = .ok (.iconst 0, 1) := by decide +kernel
theorem dX6_sorts_6 : decode cX6_sorts 6 = .ok (.istore_n 1, 1) := by decide +kernel
theorem dX6_sorts_7 : decode cX6_sorts 7 = .ok (.iload_n 1, 1) := by decide +kernel
theorem dX6_sorts_8 : decode cX6_sorts 8 = .ok (.aload_n 0, 1) := by decide +kernel
theorem dX6_sorts_9 : decode cX6_sorts 9 = .ok (.getfield 50, 3) := by decide +kernel
theorem dX6_sorts_12 : decode cX6_sorts 12 = .ok (.if_icmp .ge 79, 3) := by decide +kernel
theorem dX6_sorts_15 : decode cX6_sorts 15 = .ok (.aload_n 0, 1) := by decide +kernel
theorem dX6_sorts_16 : decode cX6_sorts 16 = .ok (.iload_n 1, 1) := by decide +kernel
theorem dX6_sorts_17 : decode cX6_sorts 17 = .ok (.invokevirtual 93, 3) := by decide +kernel
theorem dX6_sorts_20 : decode cX6_sorts 20 = .ok (.ifCond .eq 65, 3) := by decide +kernel
theorem dX6_sorts_23 : decode cX6_sorts 23 = .ok (.aload_n 0, 1) := by decide +kernel
theorem dX6_sorts_24 : decode cX6_sorts 24 = .ok (.getfield 90, 3) := by decide +kernel
theorem dX6_sorts_27 : decode cX6_sorts 27 = .ok (.istore_n 2, 1) := by decide +kernel
theorem dX6_sorts_28 : decode cX6_sorts 28 = .ok (.iload_n 2, 1) := by decide +kernel
theorem dX6_sorts_29 : decode cX6_sorts 29 = .ok (.ifCond .le 39, 3) := by decide +kernel
theorem dX6_sorts_32 : decode cX6_sorts 32 = .ok (.aload_n 0, 1) := by decide +kernel
theorem dX6_sorts_33 : decode cX6_sorts 33 = .ok (.iload_n 1, 1) := by decide +kernel
theorem dX6_sorts_34 : decode cX6_sorts 34 = .ok (.aload_n 0, 1) := by decide +kernel
theorem dX6_sorts_35 : decode cX6_sorts 35 = .ok (.getfield 29, 3) := by decide +kernel
theorem dX6_sorts_38 : decode cX6_sorts 38 = .ok (.iload_n 2, 1) := by decide +kernel
theorem dX6_sorts_39 : decode cX6_sorts 39 = .ok (.iconst 1, 1) := by decide +kernel
theorem dX6_sorts_40 : decode cX6_sorts 40 = .ok (.isub, 1) := by decide +kernel
theorem dX6_sorts_41 : decode cX6_sorts 41 = .ok (.iaload, 1) := by decide +kernel
theorem dX6_sorts_42 : decode cX6_sorts 42 = .ok (.invokevirtual 96, 3) := by decide +kernel
theorem dX6_sorts_45 : decode cX6_sorts 45 = .ok (.ifCond .eq 23, 3) := by decide +kernel
theorem dX6_sorts_48 : decode cX6_sorts 48 = .ok (.aload_n 0, 1) := by decide +kernel
theorem dX6_sorts_49 : decode cX6_sorts 49 = .ok (.getfield 29, 3) := by decide +kernel
theorem dX6_sorts_52 : decode cX6_sorts 52 = .ok (.iload_n 2, 1) := by decide +kernel
theorem dX6_sorts_53 : decode cX6_sorts 53 = .ok (.aload_n 0, 1) := by decide +kernel
theorem dX6_sorts_54 : decode cX6_sorts 54 = .ok (.getfield 29, 3) := by decide +kernel
theorem dX6_sorts_57 : decode cX6_sorts 57 = .ok (.iload_n 2, 1) := by decide +kernel
theorem dX6_sorts_58 : decode cX6_sorts 58 = .ok (.iconst 1, 1) := by decide +kernel
theorem dX6_sorts_59 : decode cX6_sorts 59 = .ok (.isub, 1) := by decide +kernel
theorem dX6_sorts_60 : decode cX6_sorts 60 = .ok (.iaload, 1) := by decide +kernel
theorem dX6_sorts_61 : decode cX6_sorts 61 = .ok (.iastore, 1) := by decide +kernel
theorem dX6_sorts_62 : decode cX6_sorts 62 = .ok (.iinc 2 (-1), 3) := by decide +kernel
theorem dX6_sorts_65 : decode cX6_sorts 65 = .ok (.goto (-37), 3) := by decide +kernel
theorem dX6_sorts_68 : decode cX6_sorts 68 = .ok (.aload_n 0, 1) := by decide +kernel
theorem dX6_sorts_69 : decode cX6_sorts 69 = .ok (.getfield 29, 3) := by decide +kernel
theorem dX6_sorts_72 : decode cX6_sorts 72 = .ok (.iload_n 2, 1) := by decide +kernel
theorem dX6_sorts_73 : decode cX6_sorts 73 = .ok (.iload_n 1, 1) := by decide +kernel
theorem dX6_sorts_74 : decode cX6_sorts 74 = .ok (.iastore, 1) := by decide +kernel
theorem dX6_sorts_75 : decode cX6_sorts 75 = .ok (.aload_n 0, 1) := by decide +kernel
theorem dX6_sorts_76 : decode cX6_sorts 76 = .ok (.dup, 1) := by decide +kernel
theorem dX6_sorts_77 : decode cX6_sorts 77 = .ok (.getfield 90, 3) := by decide +kernel
theorem dX6_sorts_80 : decode cX6_sorts 80 = .ok (.iconst 1, 1) := by decide +kernel
theorem dX6_sorts_81 : decode cX6_sorts 81 = .ok (.iadd, 1) := by decide +kernel
theorem dX6_sorts_82 : decode cX6_sorts 82 = .ok (.putfield 90, 3) := by decide +kernel
theorem dX6_sorts_85 : decode cX6_sorts 85 = .ok (.iinc 1 1, 3) := by decide +kernel
theorem dX6_sorts_88 : decode cX6_sorts 88 = .ok (.goto (-81), 3) := by decide +kernel
theorem dX6_sorts_91 : decode cX6_sorts 91 = .ok (.return_, 1) := by decide +kernel
theorem dX6_wins_0 : decode cX6_wins 0 = .ok (.aload_n 0, 1) := by decide +kernel
theorem dX6_wins_1 : decode cX6_wins 1 = .ok (.iconst 2, 1) := by decide +kernel
theorem dX6_wins_2 : decode cX6_wins 2 = .ok (.invokevirtual 99, 3) := by decide +kernel
theorem dX6_wins_5 : decode cX6_wins 5 = .ok (.istore_n 1, 1) := by decide +kernel
theorem dX6_wins_6 : decode cX6_wins 6 = .ok (.iconst 0, 1) := by decide +kernel
theorem dX6_wins_7 : decode cX6_wins 7 = .ok (.istore_n 2, 1) := by decide +kernel
theorem dX6_wins_8 : decode cX6_wins 8 = .ok (.iconst 0, 1) := by decide +kernel
theorem dX6_wins_9 : decode cX6_wins 9 = .ok (.istore_n 3, 1) := by decide +kernel
theorem dX6_wins_10 : decode cX6_wins 10 = .ok (.iload_n 3, 1) := by decide +kernel
theorem dX6_wins_11 : decode cX6_wins 11 = .ok (.aload_n 0, 1) := by decide +kernel
theorem dX6_wins_12 : decode cX6_wins 12 = .ok (.getfield 90, 3) := by decide +kernel
theorem dX6_wins_15 : decode cX6_wins 15 = .ok (.if_icmp .ge 101, 3) := by decide +kernel
theorem dX6_wins_18 : decode cX6_wins 18 = .ok (.aload_n 0, 1) := by decide +kernel
theorem dX6_wins_19 : decode cX6_wins 19 = .ok (.getfield 29, 3) := by decide +kernel
theorem dX6_wins_22 : decode cX6_wins 22 = .ok (.iload_n 3, 1) := by decide +kernel
theorem dX6_wins_23 : decode cX6_wins 23 = .ok (.iaload, 1) := by decide +kernel
theorem dX6_wins_24 : decode cX6_wins 24 = .ok (.istore 4, 2) := by decide +kernel
theorem dX6_wins_26 : decode cX6_wins 26 = .ok (.iload_n 3, 1) := by decide +kernel
theorem dX6_wins_27 : decode cX6_wins 27 = .ok (.ifCond .le 32, 3) := by decide +kernel
theorem dX6_wins_30 : decode cX6_wins 30 = .ok (.aload_n 0, 1) := by decide +kernel
theorem dX6_wins_31 : decode cX6_wins 31 = .ok (.aload_n 0, 1) := by decide +kernel
theorem dX6_wins_32 : decode cX6_wins 32 = .ok (.getfield 29, 3) := by decide +kernel
theorem dX6_wins_35 : decode cX6_wins 35 = .ok (.iload_n 3, 1) := by decide +kernel
theorem dX6_wins_36 : decode cX6_wins 36 = .ok (.iconst 1, 1) := by decide +kernel
theorem dX6_wins_37 : decode cX6_wins 37 = .ok (.isub, 1) := by decide +kernel
theorem dX6_wins_38 : decode cX6_wins 38 = .ok (.iaload, 1) := by decide +kernel
theorem dX6_wins_39 : decode cX6_wins 39 = .ok (.iconst 2, 1) := by decide +kernel
theorem dX6_wins_40 : decode cX6_wins 40 = .ok (.invokevirtual 70, 3) := by decide +kernel
theorem dX6_wins_43 : decode cX6_wins 43 = .ok (.aload_n 0, 1) := by decide +kernel
theorem dX6_wins_44 : decode cX6_wins 44 = .ok (.iload 4, 2) := by decide +kernel
theorem dX6_wins_46 : decode cX6_wins 46 = .ok (.iconst 2, 1) := by decide +kernel
theorem dX6_wins_47 : decode cX6_wins 47 = .ok (.invokevirtual 70, 3) := by decide +kernel
theorem dX6_wins_50 : decode cX6_wins 50 = .ok (.if_icmp .ne 9, 3) := by decide +kernel
theorem dX6_wins_53 : decode cX6_wins 53 = .ok (.iload_n 2, 1) := by decide +kernel
theorem dX6_wins_54 : decode cX6_wins 54 = .ok (.iconst 1, 1) := by decide +kernel
theorem dX6_wins_55 : decode cX6_wins 55 = .ok (.iadd, 1) := by decide +kernel
theorem dX6_wins_56 : decode cX6_wins 56 = .ok (.goto 4, 3) := by decide +kernel
theorem dX6_wins_59 : decode cX6_wins 59 = .ok (.iconst 0, 1) := by decide +kernel
theorem dX6_wins_60 : decode cX6_wins 60 = .ok (.istore_n 2, 1) := by decide +kernel
theorem dX6_wins_61 : decode cX6_wins 61 = .ok (.iload_n 2, 1) := by decide +kernel
theorem dX6_wins_62 : decode cX6_wins 62 = .ok (.aload_n 0, 1) := by decide +kernel
theorem dX6_wins_63 : decode cX6_wins 63 = .ok (.getfield 7, 3) := by decide +kernel
theorem dX6_wins_66 : decode cX6_wins 66 = .ok (.if_icmp .ge 44, 3) := by decide +kernel
theorem dX6_wins_69 : decode cX6_wins 69 = .ok (.iload_n 1, 1) := by decide +kernel
theorem dX6_wins_70 : decode cX6_wins 70 = .ok (.aload_n 0, 1) := by decide +kernel
theorem dX6_wins_71 : decode cX6_wins 71 = .ok (.getfield 16, 3) := by decide +kernel
theorem dX6_wins_74 : decode cX6_wins 74 = .ok (.if_icmp .ge 36, 3) := by decide +kernel
theorem dX6_wins_77 : decode cX6_wins 77 = .ok (.aload_n 0, 1) := by decide +kernel
theorem dX6_wins_78 : decode cX6_wins 78 = .ok (.iload 4, 2) := by decide +kernel
theorem dX6_wins_80 : decode cX6_wins 80 = .ok (.iconst 0, 1) := by decide +kernel
theorem dX6_wins_81 : decode cX6_wins 81 = .ok (.iconst 2, 1) := by decide +kernel
theorem dX6_wins_82 : decode cX6_wins 82 = .ok (.invokevirtual 82, 3) := by decide +kernel
theorem dX6_wins_85 : decode cX6_wins 85 = .ok (.aload_n 0, 1) := by decide +kernel
theorem dX6_wins_86 : decode cX6_wins 86 = .ok (.iload 4, 2) := by decide +kernel
theorem dX6_wins_88 : decode cX6_wins 88 = .ok (.bipush 7, 2) := by decide +kernel
theorem dX6_wins_90 : decode cX6_wins 90 = .ok (.aload_n 0, 1) := by decide +kernel
theorem dX6_wins_91 : decode cX6_wins 91 = .ok (.getfield 53, 3) := by decide +kernel
theorem dX6_wins_94 : decode cX6_wins 94 = .ok (.invokevirtual 82, 3) := by decide +kernel
theorem dX6_wins_97 : decode cX6_wins 97 = .ok (.aload_n 0, 1) := by decide +kernel
theorem dX6_wins_98 : decode cX6_wins 98 = .ok (.dup, 1) := by decide +kernel
theorem dX6_wins_99 : decode cX6_wins 99 = .ok (.getfield 53, 3) := by decide +kernel
theorem dX6_wins_102 : decode cX6_wins 102 = .ok (.iconst 1, 1) := by decide +kernel
theorem dX6_wins_103 : decode cX6_wins 103 = .ok (.iadd, 1) := by decide +kernel
theorem dX6_wins_104 : decode cX6_wins 104 = .ok (.putfield 53, 3) := by decide +kernel
theorem dX6_wins_107 : decode cX6_wins 107 = .ok (.iinc 1 1, 3) := by decide +kernel
theorem dX6_wins_110 : decode cX6_wins 110 = .ok (.iinc 3 1, 3) := by decide +kernel
theorem dX6_wins_113 : decode cX6_wins 113 = .ok (.goto (-103), 3) := by decide +kernel
theorem dX6_wins_116 : decode cX6_wins 116 = .ok (.return_, 1) := by decide +kernel
theorem dX6_turns_0 : decode cX6_turns 0 = .ok (.iconst 0, 1) := by decide +kernel
theorem dX6_turns_1 : decode cX6_turns 1 = .ok (.istore_n 1, 1) := by decide +kernel
theorem dX6_turns_2 : decode cX6_turns 2 = .ok (.iload_n 1, 1) := by decide +kernel
theorem dX6_turns_3 : decode cX6_turns 3 = .ok (.aload_n 0, 1) := by decide +kernel
theorem dX6_turns_4 : decode cX6_turns 4 = .ok (.getfield 90, 3) := by decide +kernel
theorem dX6_turns_7 : decode cX6_turns 7 = .ok (.if_icmp .ge 133, 3) := by decide +kernel
theorem dX6_turns_10 : decode cX6_turns 10 = .ok (.aload_n 0, 1) := by decide +kernel
theorem dX6_turns_11 : decode cX6_turns 11 = .ok (.getfield 29, 3) := by decide +kernel
theorem dX6_turns_14 : decode cX6_turns 14 = .ok (.iload_n 1, 1) := by decide +kernel
theorem dX6_turns_15 : decode cX6_turns 15 = .ok (.iaload, 1) := by decide +kernel
theorem dX6_turns_16 : decode cX6_turns 16 = .ok (.istore_n 2, 1) := by decide +kernel
theorem dX6_turns_17 : decode cX6_turns 17 = .ok (.iconst 0, 1) := by decide +kernel
theorem dX6_turns_18 : decode cX6_turns 18 = .ok (.istore_n 3, 1) := by decide +kernel
theorem dX6_turns_19 : decode cX6_turns 19 = .ok (.iconst 0, 1) := by decide +kernel
theorem dX6_turns_20 : decode cX6_turns 20 = .ok (.istore 4, 2) := by decide +kernel
theorem dX6_turns_22 : decode cX6_turns 22 = .ok (.iload 4, 2) := by decide +kernel
theorem dX6_turns_24 : decode cX6_turns 24 = .ok (.aload_n 0, 1) := by decide +kernel
theorem dX6_turns_25 : decode cX6_turns 25 = .ok (.getfield 90, 3) := by decide +kernel
theorem dX6_turns_28 : decode cX6_turns 28 = .ok (.if_icmp .ge 73, 3) := by decide +kernel
theorem dX6_turns_31 : decode cX6_turns 31 = .ok (.aload_n 0, 1) := by decide +kernel
theorem dX6_turns_32 : decode cX6_turns 32 = .ok (.iload_n 2, 1) := by decide +kernel
theorem dX6_turns_33 : decode cX6_turns 33 = .ok (.invokevirtual 93, 3) := by decide +kernel
theorem dX6_turns_36 : decode cX6_turns 36 = .ok (.ifCond .eq 65, 3) := by decide +kernel
theorem dX6_turns_39 : decode cX6_turns 39 = .ok (.aload_n 0, 1) := by decide +kernel
theorem dX6_turns_40 : decode cX6_turns 40 = .ok (.getfield 29, 3) := by decide +kernel
theorem dX6_turns_43 : decode cX6_turns 43 = .ok (.iload 4, 2) := by decide +kernel
theorem dX6_turns_45 : decode cX6_turns 45 = .ok (.iaload, 1) := by decide +kernel
theorem dX6_turns_46 : decode cX6_turns 46 = .ok (.istore 5, 2) := by decide +kernel
theorem dX6_turns_48 : decode cX6_turns 48 = .ok (.iload 5, 2) := by decide +kernel
theorem dX6_turns_50 : decode cX6_turns 50 = .ok (.iload_n 2, 1) := by decide +kernel
theorem dX6_turns_51 : decode cX6_turns 51 = .ok (.if_icmp .eq 18, 3) := by decide +kernel
theorem dX6_turns_54 : decode cX6_turns 54 = .ok (.aload_n 0, 1) := by decide +kernel
theorem dX6_turns_55 : decode cX6_turns 55 = .ok (.iload 5, 2) := by decide +kernel
theorem dX6_turns_57 : decode cX6_turns 57 = .ok (.iconst 0, 1) := by decide +kernel
theorem dX6_turns_58 : decode cX6_turns 58 = .ok (.invokevirtual 70, 3) := by decide +kernel
theorem dX6_turns_61 : decode cX6_turns 61 = .ok (.iconst 2, 1) := by decide +kernel
theorem dX6_turns_62 : decode cX6_turns 62 = .ok (.if_icmp .eq 7, 3) := by decide +kernel
theorem dX6_turns_65 : decode cX6_turns 65 = .ok (.iconst 1, 1) := by decide +kernel
theorem dX6_turns_66 : decode cX6_turns 66 = .ok (.goto 4, 3) := by decide +kernel
theorem dX6_turns_69 : decode cX6_turns 69 = .ok (.iconst 0, 1) := by decide +kernel
theorem dX6_turns_70 : decode cX6_turns 70 = .ok (.istore 6, 2) := by decide +kernel
theorem dX6_turns_72 : decode cX6_turns 72 = .ok (.iload_n 3, 1) := by decide +kernel
theorem dX6_turns_73 : decode cX6_turns 73 = .ok (.iload 6, 2) := by decide +kernel
theorem dX6_turns_75 : decode cX6_turns 75 = .ok (.ifCond .eq 17, 3) := by decide +kernel
theorem dX6_turns_78 : decode cX6_turns 78 = .ok (.aload_n 0, 1) := by decide +kernel
theorem dX6_turns_79 : decode cX6_turns 79 = .ok (.iload 5, 2) := by decide +kernel
theorem dX6_turns_81 : decode cX6_turns 81 = .ok (.iload_n 2, 1) := by decide +kernel
theorem dX6_turns_82 : decode cX6_turns 82 = .ok (.invokevirtual 86, 3) := by decide +kernel
theorem dX6_turns_85 : decode cX6_turns 85 = .ok (.ifCond .eq 7, 3) := by decide +kernel
theorem dX6_turns_88 : decode cX6_turns 88 = .ok (.iconst 1, 1) := by decide +kernel
theorem dX6_turns_89 : decode cX6_turns 89 = .ok (.goto 4, 3) := by decide +kernel
theorem dX6_turns_92 : decode cX6_turns 92 = .ok (.iconst 0, 1) := by decide +kernel
theorem dX6_turns_93 : decode cX6_turns 93 = .ok (.iadd, 1) := by decide +kernel
theorem dX6_turns_94 : decode cX6_turns 94 = .ok (.istore_n 3, 1) := by decide +kernel
theorem dX6_turns_95 : decode cX6_turns 95 = .ok (.iinc 4 1, 3) := by decide +kernel
theorem dX6_turns_98 : decode cX6_turns 98 = .ok (.goto (-76), 3) := by decide +kernel
theorem dX6_turns_101 : decode cX6_turns 101 = .ok (.aload_n 0, 1) := by decide +kernel
theorem dX6_turns_102 : decode cX6_turns 102 = .ok (.getfield 32, 3) := by decide +kernel
theorem dX6_turns_105 : decode cX6_turns 105 = .ok (.iload_n 1, 1) := by decide +kernel
theorem dX6_turns_106 : decode cX6_turns 106 = .ok (.aload_n 0, 1) := by decide +kernel
theorem dX6_turns_107 : decode cX6_turns 107 = .ok (.iload_n 2, 1) := by decide +kernel
theorem dX6_turns_108 : decode cX6_turns 108 = .ok (.iconst 0, 1) := by decide +kernel
theorem dX6_turns_109 : decode cX6_turns 109 = .ok (.invokevirtual 70, 3) := by decide +kernel
theorem dX6_turns_112 : decode cX6_turns 112 = .ok (.iconst 2, 1) := by decide +kernel
theorem dX6_turns_113 : decode cX6_turns 113 = .ok (.if_icmp .ne 7, 3) := by decide +kernel
theorem dX6_turns_116 : decode cX6_turns 116 = .ok (.iconst 2, 1) := by decide +kernel
theorem dX6_turns_117 : decode cX6_turns 117 = .ok (.goto 16, 3) := by decide +kernel
theorem dX6_turns_120 : decode cX6_turns 120 = .ok (.iload_n 3, 1) := by decide +kernel
theorem dX6_turns_121 : decode cX6_turns 121 = .ok (.aload_n 0, 1) := by decide +kernel
theorem dX6_turns_122 : decode cX6_turns 122 = .ok (.getfield 13, 3) := by decide +kernel
theorem dX6_turns_125 : decode cX6_turns 125 = .ok (.if_icmp .ge 7, 3) := by decide +kernel
theorem dX6_turns_128 : decode cX6_turns 128 = .ok (.iconst 1, 1) := by decide +kernel
theorem dX6_turns_129 : decode cX6_turns 129 = .ok (.goto 4, 3) := by decide +kernel
theorem dX6_turns_132 : decode cX6_turns 132 = .ok (.iconst 4, 1) := by decide +kernel
theorem dX6_turns_133 : decode cX6_turns 133 = .ok (.iastore, 1) := by decide +kernel
theorem dX6_turns_134 : decode cX6_turns 134 = .ok (.iinc 1 1, 3) := by decide +kernel
theorem dX6_turns_137 : decode cX6_turns 137 = .ok (.goto (-135), 3) := by decide +kernel
theorem dX6_turns_140 : decode cX6_turns 140 = .ok (.iconst 0, 1) := by decide +kernel
theorem dX6_turns_141 : decode cX6_turns 141 = .ok (.istore_n 1, 1) := by decide +kernel
theorem dX6_turns_142 : decode cX6_turns 142 = .ok (.iload_n 1, 1) := by decide +kernel
theorem dX6_turns_143 : decode cX6_turns 143 = .ok (.aload_n 0, 1) := by decide +kernel
theorem dX6_turns_144 : decode cX6_turns 144 = .ok (.getfield 90, 3) := by decide +kernel
theorem dX6_turns_147 : decode cX6_turns 147 = .ok (.if_icmp .ge 87, 3) := by decide +kernel
theorem dX6_turns_150 : decode cX6_turns 150 = .ok (.aload_n 0, 1) := by decide +kernel
theorem dX6_turns_151 : decode cX6_turns 151 = .ok (.getfield 29, 3) := by decide +kernel
theorem dX6_turns_154 : decode cX6_turns 154 = .ok (.iload_n 1, 1) := by decide +kernel
theorem dX6_turns_155 : decode cX6_turns 155 = .ok (.iaload, 1) := by decide +kernel
theorem dX6_turns_156 : decode cX6_turns 156 = .ok (.istore_n 2, 1) := by decide +kernel
theorem dX6_turns_157 : decode cX6_turns 157 = .ok (.aload_n 0, 1) := by decide +kernel
theorem dX6_turns_158 : decode cX6_turns 158 = .ok (.iload_n 2, 1) := by decide +kernel
theorem dX6_turns_159 : decode cX6_turns 159 = .ok (.iconst 0, 1) := by decide +kernel
theorem dX6_turns_160 : decode cX6_turns 160 = .ok (.aload_n 0, 1) := by decide +kernel
theorem dX6_turns_161 : decode cX6_turns 161 = .ok (.getfield 32, 3) := by decide +kernel
theorem dX6_turns_164 : decode cX6_turns 164 = .ok (.iload_n 1, 1) := by decide +kernel
theorem dX6_turns_165 : decode cX6_turns 165 = .ok (.iaload, 1) := by decide +kernel
theorem dX6_turns_166 : decode cX6_turns 166 = .ok (.invokevirtual 82, 3) := by decide +kernel
theorem dX6_turns_169 : decode cX6_turns 169 = .ok (.aload_n 0, 1) := by decide +kernel
theorem dX6_turns_170 : decode cX6_turns 170 = .ok (.iload_n 2, 1) := by decide +kernel
theorem dX6_turns_171 : decode cX6_turns 171 = .ok (.bipush 6, 2) := by decide +kernel
theorem dX6_turns_173 : decode cX6_turns 173 = .ok (.aload_n 0, 1) := by decide +kernel
theorem dX6_turns_174 : decode cX6_turns 174 = .ok (.iload_n 2, 1) := by decide +kernel
theorem dX6_turns_175 : decode cX6_turns 175 = .ok (.bipush 6, 2) := by decide +kernel
theorem dX6_turns_177 : decode cX6_turns 177 = .ok (.invokevirtual 70, 3) := by decide +kernel
theorem dX6_turns_180 : decode cX6_turns 180 = .ok (.aload_n 0, 1) := by decide +kernel
theorem dX6_turns_181 : decode cX6_turns 181 = .ok (.getfield 32, 3) := by decide +kernel
theorem dX6_turns_184 : decode cX6_turns 184 = .ok (.iload_n 1, 1) := by decide +kernel
theorem dX6_turns_185 : decode cX6_turns 185 = .ok (.iaload, 1) := by decide +kernel
theorem dX6_turns_186 : decode cX6_turns 186 = .ok (.iconst 1, 1) := by decide +kernel
theorem dX6_turns_187 : decode cX6_turns 187 = .ok (.if_icmp .ne 7, 3) := by decide +kernel
theorem dX6_turns_190 : decode cX6_turns 190 = .ok (.iconst 1, 1) := by decide +kernel
theorem dX6_turns_191 : decode cX6_turns 191 = .ok (.goto 4, 3) := by decide +kernel
theorem dX6_turns_194 : decode cX6_turns 194 = .ok (.iconst 0, 1) := by decide +kernel
theorem dX6_turns_195 : decode cX6_turns 195 = .ok (.iadd, 1) := by decide +kernel
theorem dX6_turns_196 : decode cX6_turns 196 = .ok (.invokevirtual 82, 3) := by decide +kernel
theorem dX6_turns_199 : decode cX6_turns 199 = .ok (.aload_n 0, 1) := by decide +kernel
theorem dX6_turns_200 : decode cX6_turns 200 = .ok (.iload_n 2, 1) := by decide +kernel
theorem dX6_turns_201 : decode cX6_turns 201 = .ok (.iconst 5, 1) := by decide +kernel
theorem dX6_turns_202 : decode cX6_turns 202 = .ok (.aload_n 0, 1) := by decide +kernel
theorem dX6_turns_203 : decode cX6_turns 203 = .ok (.getfield 32, 3) := by decide +kernel
theorem dX6_turns_206 : decode cX6_turns 206 = .ok (.iload_n 1, 1) := by decide +kernel
theorem dX6_turns_207 : decode cX6_turns 207 = .ok (.iaload, 1) := by decide +kernel
theorem dX6_turns_208 : decode cX6_turns 208 = .ok (.iconst 4, 1) := by decide +kernel
theorem dX6_turns_209 : decode cX6_turns 209 = .ok (.if_icmp .ne 10, 3) := by decide +kernel
theorem dX6_turns_212 : decode cX6_turns 212 = .ok (.aload_n 0, 1) := by decide +kernel
theorem dX6_turns_213 : decode cX6_turns 213 = .ok (.getfield 47, 3) := by decide +kernel
theorem dX6_turns_216 : decode cX6_turns 216 = .ok (.goto 9, 3) := by decide +kernel
theorem dX6_turns_219 : decode cX6_turns 219 = .ok (.aload_n 0, 1) := by decide +kernel
theorem dX6_turns_220 : decode cX6_turns 220 = .ok (.iload_n 2, 1) := by decide +kernel
theorem dX6_turns_221 : decode cX6_turns 221 = .ok (.iconst 5, 1) := by decide +kernel
