theorem dX6_turns_222 : decode cX6_turns 222 = .ok (.invokevirtual 70, 3) := by decide +kernel
theorem dX6_turns_225 : decode cX6_turns 225 = .ok (.invokevirtual 82, 3) := by decide +kernel
theorem dX6_turns_228 : decode cX6_turns 228 = .ok (.iinc 1 1, 3) := by decide +kernel
theorem dX6_turns_231 : decode cX6_turns 231 = .ok (.goto (-89), 3) := by decide +kernel
theorem dX6_turns_234 : decode cX6_turns 234 = .ok (.return_, 1) := by decide +kernel
theorem dX6_queued_0 : decode cX6_queued 0 = .ok (.iconst 0, 1) := by decide +kernel
theorem dX6_queued_1 : decode cX6_queued 1 = .ok (.istore_n 3, 1) := by decide +kernel
theorem dX6_queued_2 : decode cX6_queued 2 = .ok (.iload_n 3, 1) := by decide +kernel
theorem dX6_queued_3 : decode cX6_queued 3 = .ok (.aload_n 0, 1) := by decide +kernel
theorem dX6_queued_4 : decode cX6_queued 4 = .ok (.getfield 50, 3) := by decide +kernel
theorem dX6_queued_7 : decode cX6_queued 7 = .ok (.if_icmp .ge 108, 3) := by decide +kernel
theorem dX6_queued_10 : decode cX6_queued 10 = .ok (.aload_n 0, 1) := by decide +kernel
theorem dX6_queued_11 : decode cX6_queued 11 = .ok (.iload_n 3, 1) := by decide +kernel
theorem dX6_queued_12 : decode cX6_queued 12 = .ok (.iconst 0, 1) := by decide +kernel
theorem dX6_queued_13 : decode cX6_queued 13 = .ok (.invokevirtual 70, 3) := by decide +kernel
theorem dX6_queued_16 : decode cX6_queued 16 = .ok (.iconst 2, 1) := by decide +kernel
theorem dX6_queued_17 : decode cX6_queued 17 = .ok (.if_icmp .ne 92, 3) := by decide +kernel
theorem dX6_queued_20 : decode cX6_queued 20 = .ok (.aload_n 0, 1) := by decide +kernel
theorem dX6_queued_21 : decode cX6_queued 21 = .ok (.iload_n 3, 1) := by decide +kernel
theorem dX6_queued_22 : decode cX6_queued 22 = .ok (.iconst 2, 1) := by decide +kernel
theorem dX6_queued_23 : decode cX6_queued 23 = .ok (.invokevirtual 70, 3) := by decide +kernel
theorem dX6_queued_26 : decode cX6_queued 26 = .ok (.iload_n 1, 1) := by decide +kernel
theorem dX6_queued_27 : decode cX6_queued 27 = .ok (.if_icmp .ne 82, 3) := by decide +kernel
theorem dX6_queued_30 : decode cX6_queued 30 = .ok (.iconst 0, 1) := by decide +kernel
theorem dX6_queued_31 : decode cX6_queued 31 = .ok (.istore 4, 2) := by decide +kernel
theorem dX6_queued_33 : decode cX6_queued 33 = .ok (.iconst 0, 1) := by decide +kernel
theorem dX6_queued_34 : decode cX6_queued 34 = .ok (.istore 5, 2) := by decide +kernel
theorem dX6_queued_36 : decode cX6_queued 36 = .ok (.iload 5, 2) := by decide +kernel
theorem dX6_queued_38 : decode cX6_queued 38 = .ok (.aload_n 0, 1) := by decide +kernel
theorem dX6_queued_39 : decode cX6_queued 39 = .ok (.getfield 50, 3) := by decide +kernel
theorem dX6_queued_42 : decode cX6_queued 42 = .ok (.if_icmp .ge 59, 3) := by decide +kernel
theorem dX6_queued_45 : decode cX6_queued 45 = .ok (.iload 4, 2) := by decide +kernel
theorem dX6_queued_47 : decode cX6_queued 47 = .ok (.aload_n 0, 1) := by decide +kernel
theorem dX6_queued_48 : decode cX6_queued 48 = .ok (.iload 5, 2) := by decide +kernel
theorem dX6_queued_50 : decode cX6_queued 50 = .ok (.iconst 0, 1) := by decide +kernel
theorem dX6_queued_51 : decode cX6_queued 51 = .ok (.invokevirtual 70, 3) := by decide +kernel
theorem dX6_queued_54 : decode cX6_queued 54 = .ok (.iconst 2, 1) := by decide +kernel
theorem dX6_queued_55 : decode cX6_queued 55 = .ok (.if_icmp .ne 36, 3) := by decide +kernel
theorem dX6_queued_58 : decode cX6_queued 58 = .ok (.aload_n 0, 1) := by decide +kernel
theorem dX6_queued_59 : decode cX6_queued 59 = .ok (.iload 5, 2) := by decide +kernel
theorem dX6_queued_61 : decode cX6_queued 61 = .ok (.iconst 2, 1) := by decide +kernel
theorem dX6_queued_62 : decode cX6_queued 62 = .ok (.invokevirtual 70, 3) := by decide +kernel
theorem dX6_queued_65 : decode cX6_queued 65 = .ok (.iload_n 1, 1) := by decide +kernel
theorem dX6_queued_66 : decode cX6_queued 66 = .ok (.if_icmp .ne 25, 3) := by decide +kernel
theorem dX6_queued_69 : decode cX6_queued 69 = .ok (.aload_n 0, 1) := by decide +kernel
theorem dX6_queued_70 : decode cX6_queued 70 = .ok (.iload 5, 2) := by decide +kernel
theorem dX6_queued_72 : decode cX6_queued 72 = .ok (.bipush 7, 2) := by decide +kernel
theorem dX6_queued_74 : decode cX6_queued 74 = .ok (.invokevirtual 70, 3) := by decide +kernel
theorem dX6_queued_77 : decode cX6_queued 77 = .ok (.aload_n 0, 1) := by decide +kernel
theorem dX6_queued_78 : decode cX6_queued 78 = .ok (.iload_n 3, 1) := by decide +kernel
theorem dX6_queued_79 : decode cX6_queued 79 = .ok (.bipush 7, 2) := by decide +kernel
theorem dX6_queued_81 : decode cX6_queued 81 = .ok (.invokevirtual 70, 3) := by decide +kernel
theorem dX6_queued_84 : decode cX6_queued 84 = .ok (.if_icmp .ge 7, 3) := by decide +kernel
theorem dX6_queued_87 : decode cX6_queued 87 = .ok (.iconst 1, 1) := by decide +kernel
theorem dX6_queued_88 : decode cX6_queued 88 = .ok (.goto 4, 3) := by decide +kernel
theorem dX6_queued_91 : decode cX6_queued 91 = .ok (.iconst 0, 1) := by decide +kernel
theorem dX6_queued_92 : decode cX6_queued 92 = .ok (.iadd, 1) := by decide +kernel
theorem dX6_queued_93 : decode cX6_queued 93 = .ok (.istore 4, 2) := by decide +kernel
theorem dX6_queued_95 : decode cX6_queued 95 = .ok (.iinc 5 1, 3) := by decide +kernel
theorem dX6_queued_98 : decode cX6_queued 98 = .ok (.goto (-62), 3) := by decide +kernel
theorem dX6_queued_101 : decode cX6_queued 101 = .ok (.iload 4, 2) := by decide +kernel
theorem dX6_queued_103 : decode cX6_queued 103 = .ok (.iload_n 2, 1) := by decide +kernel
theorem dX6_queued_104 : decode cX6_queued 104 = .ok (.if_icmp .ne 5, 3) := by decide +kernel
theorem dX6_queued_107 : decode cX6_queued 107 = .ok (.iload_n 3, 1) := by decide +kernel
theorem dX6_queued_108 : decode cX6_queued 108 = .ok (.ireturn, 1) := by decide +kernel
theorem dX6_queued_109 : decode cX6_queued 109 = .ok (.iinc 3 1, 3) := by decide +kernel
theorem dX6_queued_112 : decode cX6_queued 112 = .ok (.goto (-110), 3) := by decide +kernel
theorem dX6_queued_115 : decode cX6_queued 115 = .ok (.bipush (-9), 2) := by decide +kernel
theorem dX6_queued_117 : decode cX6_queued 117 = .ok (.ireturn, 1) := by decide +kernel
theorem dX6_goes_0 : decode cX6_goes 0 = .ok (.aload_n 0, 1) := by decide +kernel
theorem dX6_goes_1 : decode cX6_goes 1 = .ok (.invokevirtual 102, 3) := by decide +kernel
theorem dX6_goes_4 : decode cX6_goes 4 = .ok (.aload_n 0, 1) := by decide +kernel
theorem dX6_goes_5 : decode cX6_goes 5 = .ok (.invokevirtual 105, 3) := by decide +kernel
theorem dX6_goes_8 : decode cX6_goes 8 = .ok (.aload_n 0, 1) := by decide +kernel
theorem dX6_goes_9 : decode cX6_goes 9 = .ok (.invokevirtual 108, 3) := by decide +kernel
theorem dX6_goes_12 : decode cX6_goes 12 = .ok (.iconst 0, 1) := by decide +kernel
theorem dX6_goes_13 : decode cX6_goes 13 = .ok (.istore_n 1, 1) := by decide +kernel
theorem dX6_goes_14 : decode cX6_goes 14 = .ok (.iconst 0, 1) := by decide +kernel
theorem dX6_goes_15 : decode cX6_goes 15 = .ok (.istore_n 2, 1) := by decide +kernel
theorem dX6_goes_16 : decode cX6_goes 16 = .ok (.iload_n 2, 1) := by decide +kernel
theorem dX6_goes_17 : decode cX6_goes 17 = .ok (.bipush 8, 2) := by decide +kernel
theorem dX6_goes_19 : decode cX6_goes 19 = .ok (.if_icmp .ge 42, 3) := by decide +kernel
theorem dX6_goes_22 : decode cX6_goes 22 = .ok (.aload_n 0, 1) := by decide +kernel
theorem dX6_goes_23 : decode cX6_goes 23 = .ok (.iload_n 2, 1) := by decide +kernel
theorem dX6_goes_24 : decode cX6_goes 24 = .ok (.iconst 0, 1) := by decide +kernel
theorem dX6_goes_25 : decode cX6_goes 25 = .ok (.invokevirtual 111, 3) := by decide +kernel
theorem dX6_goes_28 : decode cX6_goes 28 = .ok (.istore_n 3, 1) := by decide +kernel
theorem dX6_goes_29 : decode cX6_goes 29 = .ok (.iload_n 3, 1) := by decide +kernel
theorem dX6_goes_30 : decode cX6_goes 30 = .ok (.bipush (-9), 2) := by decide +kernel
theorem dX6_goes_32 : decode cX6_goes 32 = .ok (.if_icmp .eq 23, 3) := by decide +kernel
theorem dX6_goes_35 : decode cX6_goes 35 = .ok (.aload_n 0, 1) := by decide +kernel
theorem dX6_goes_36 : decode cX6_goes 36 = .ok (.iload_n 3, 1) := by decide +kernel
theorem dX6_goes_37 : decode cX6_goes 37 = .ok (.iconst 0, 1) := by decide +kernel
theorem dX6_goes_38 : decode cX6_goes 38 = .ok (.iconst 3, 1) := by decide +kernel
theorem dX6_goes_39 : decode cX6_goes 39 = .ok (.invokevirtual 82, 3) := by decide +kernel
theorem dX6_goes_42 : decode cX6_goes 42 = .ok (.aload_n 0, 1) := by decide +kernel
theorem dX6_goes_43 : decode cX6_goes 43 = .ok (.iload_n 3, 1) := by decide +kernel
theorem dX6_goes_44 : decode cX6_goes 44 = .ok (.iconst 5, 1) := by decide +kernel
theorem dX6_goes_45 : decode cX6_goes 45 = .ok (.aload_n 0, 1) := by decide +kernel
theorem dX6_goes_46 : decode cX6_goes 46 = .ok (.getfield 47, 3) := by decide +kernel
theorem dX6_goes_49 : decode cX6_goes 49 = .ok (.invokevirtual 82, 3) := by decide +kernel
theorem dX6_goes_52 : decode cX6_goes 52 = .ok (.iinc 1 1, 3) := by decide +kernel
theorem dX6_goes_55 : decode cX6_goes 55 = .ok (.iinc 2 1, 3) := by decide +kernel
theorem dX6_goes_58 : decode cX6_goes 58 = .ok (.goto (-42), 3) := by decide +kernel
theorem dX6_goes_61 : decode cX6_goes 61 = .ok (.aload_n 0, 1) := by decide +kernel
theorem dX6_goes_62 : decode cX6_goes 62 = .ok (.dup, 1) := by decide +kernel
theorem dX6_goes_63 : decode cX6_goes 63 = .ok (.getfield 47, 3) := by decide +kernel
theorem dX6_goes_66 : decode cX6_goes 66 = .ok (.iconst 1, 1) := by decide +kernel
theorem dX6_goes_67 : decode cX6_goes 67 = .ok (.iadd, 1) := by decide +kernel
theorem dX6_goes_68 : decode cX6_goes 68 = .ok (.putfield 47, 3) := by decide +kernel
theorem dX6_goes_71 : decode cX6_goes 71 = .ok (.iload_n 1, 1) := by decide +kernel
theorem dX6_goes_72 : decode cX6_goes 72 = .ok (.ireturn, 1) := by decide +kernel
theorem dX6_slot_0 : decode cX6_slot 0 = .ok (.aload_n 0, 1) := by decide +kernel
theorem dX6_slot_1 : decode cX6_slot 1 = .ok (.getfield 47, 3) := by decide +kernel
theorem dX6_slot_4 : decode cX6_slot 4 = .ok (.bipush 99, 2) := by decide +kernel
theorem dX6_slot_6 : decode cX6_slot 6 = .ok (.if_icmp .ne 6, 3) := by decide +kernel
theorem dX6_slot_9 : decode cX6_slot 9 = .ok (.bipush (-2), 2) := by decide +kernel
theorem dX6_slot_11 : decode cX6_slot 11 = .ok (.ireturn, 1) := by decide +kernel
theorem dX6_slot_12 : decode cX6_slot 12 = .ok (.aload_n 0, 1) := by decide +kernel
theorem dX6_slot_13 : decode cX6_slot 13 = .ok (.invokevirtual 67, 3) := by decide +kernel
theorem dX6_slot_16 : decode cX6_slot 16 = .ok (.aload_n 0, 1) := by decide +kernel
theorem dX6_slot_17 : decode cX6_slot 17 = .ok (.invokevirtual 114, 3) := by decide +kernel
theorem dX6_slot_20 : decode cX6_slot 20 = .ok (.ireturn, 1) := by decide +kernel
theorem dX6_undo_0 : decode cX6_undo 0 = .ok (.aload_n 0, 1) := by decide +kernel
theorem dX6_undo_1 : decode cX6_undo 1 = .ok (.getfield 56, 3) := by decide +kernel
theorem dX6_undo_4 : decode cX6_undo 4 = .ok (.ifCond .ne 6, 3) := by decide +kernel
theorem dX6_undo_7 : decode cX6_undo 7 = .ok (.bipush (-2), 2) := by decide +kernel
theorem dX6_undo_9 : decode cX6_undo 9 = .ok (.ireturn, 1) := by decide +kernel
theorem dX6_undo_10 : decode cX6_undo 10 = .ok (.aload_n 0, 1) := by decide +kernel
theorem dX6_undo_11 : decode cX6_undo 11 = .ok (.dup, 1) := by decide +kernel
theorem dX6_undo_12 : decode cX6_undo 12 = .ok (.getfield 56, 3) := by decide +kernel
theorem dX6_undo_15 : decode cX6_undo 15 = .ok (.iconst 1, 1) := by decide +kernel
theorem dX6_undo_16 : decode cX6_undo 16 = .ok (.isub, 1) := by decide +kernel
theorem dX6_undo_17 : decode cX6_undo 17 = .ok (.putfield 56, 3) := by decide +kernel
theorem dX6_undo_20 : decode cX6_undo 20 = .ok (.aload_n 0, 1) := by decide +kernel
theorem dX6_undo_21 : decode cX6_undo 21 = .ok (.aload_n 0, 1) := by decide +kernel
theorem dX6_undo_22 : decode cX6_undo 22 = .ok (.getfield 56, 3) := by decide +kernel
theorem dX6_undo_25 : decode cX6_undo 25 = .ok (.invokevirtual 118, 3) := by decide +kernel
theorem dX6_undo_28 : decode cX6_undo 28 = .ok (.aload_n 0, 1) := by decide +kernel
theorem dX6_undo_29 : decode cX6_undo 29 = .ok (.getfield 56, 3) := by decide +kernel
theorem dX6_undo_32 : decode cX6_undo 32 = .ok (.ireturn, 1) := by decide +kernel
theorem dX6_clear_0 : decode cX6_clear 0 = .ok (.aload_n 0, 1) := by decide +kernel
theorem dX6_clear_1 : decode cX6_clear 1 = .ok (.getfield 50, 3) := by decide +kernel
theorem dX6_clear_4 : decode cX6_clear 4 = .ok (.istore_n 1, 1) := by decide +kernel
theorem dX6_clear_5 : decode cX6_clear 5 = .ok (.aload_n 0, 1) := by decide +kernel
theorem dX6_clear_6 : decode cX6_clear 6 = .ok (.iconst 1, 1) := by decide +kernel
theorem dX6_clear_7 : decode cX6_clear 7 = .ok (.putfield 7, 3) := by decide +kernel
theorem dX6_clear_10 : decode cX6_clear 10 = .ok (.aload_n 0, 1) := by decide +kernel
theorem dX6_clear_11 : decode cX6_clear 11 = .ok (.bipush 8, 2) := by decide +kernel
theorem dX6_clear_13 : decode cX6_clear 13 = .ok (.putfield 13, 3) := by decide +kernel
theorem dX6_clear_16 : decode cX6_clear 16 = .ok (.aload_n 0, 1) := by decide +kernel
theorem dX6_clear_17 : decode cX6_clear 17 = .ok (.bipush 8, 2) := by decide +kernel
theorem dX6_clear_19 : decode cX6_clear 19 = .ok (.putfield 16, 3) := by decide +kernel
theorem dX6_clear_22 : decode cX6_clear 22 = .ok (.aload_n 0, 1) := by decide +kernel
theorem dX6_clear_23 : decode cX6_clear 23 = .ok (.iconst 0, 1) := by decide +kernel
theorem dX6_clear_24 : decode cX6_clear 24 = .ok (.putfield 47, 3) := by decide +kernel
theorem dX6_clear_27 : decode cX6_clear 27 = .ok (.aload_n 0, 1) := by decide +kernel
theorem dX6_clear_28 : decode cX6_clear 28 = .ok (.iconst 0, 1) := by decide +kernel
theorem dX6_clear_29 : decode cX6_clear 29 = .ok (.putfield 50, 3) := by decide +kernel
theorem dX6_clear_32 : decode cX6_clear 32 = .ok (.aload_n 0, 1) := by decide +kernel
theorem dX6_clear_33 : decode cX6_clear 33 = .ok (.iconst 0, 1) := by decide +kernel
theorem dX6_clear_34 : decode cX6_clear 34 = .ok (.putfield 53, 3) := by decide +kernel
theorem dX6_clear_37 : decode cX6_clear 37 = .ok (.aload_n 0, 1) := by decide +kernel
theorem dX6_clear_38 : decode cX6_clear 38 = .ok (.iconst 0, 1) := by decide +kernel
theorem dX6_clear_39 : decode cX6_clear 39 = .ok (.putfield 56, 3) := by decide +kernel
theorem dX6_clear_42 : decode cX6_clear 42 = .ok (.aload_n 0, 1) := by decide +kernel
theorem dX6_clear_43 : decode cX6_clear 43 = .ok (.iconst 0, 1) := by decide +kernel
theorem dX6_clear_44 : decode cX6_clear 44 = .ok (.putfield 121, 3) := by decide +kernel
theorem dX6_clear_47 : decode cX6_clear 47 = .ok (.aload_n 0, 1) := by decide +kernel
theorem dX6_clear_48 : decode cX6_clear 48 = .ok (.getfield 26, 3) := by decide +kernel
theorem dX6_clear_51 : decode cX6_clear 51 = .ok (.iconst 0, 1) := by decide +kernel
theorem dX6_clear_52 : decode cX6_clear 52 = .ok (.iconst 0, 1) := by decide +kernel
theorem dX6_clear_53 : decode cX6_clear 53 = .ok (.iastore, 1) := by decide +kernel
theorem dX6_clear_54 : decode cX6_clear 54 = .ok (.aload_n 0, 1) := by decide +kernel
theorem dX6_clear_55 : decode cX6_clear 55 = .ok (.getfield 26, 3) := by decide +kernel
theorem dX6_clear_58 : decode cX6_clear 58 = .ok (.iconst 1, 1) := by decide +kernel
theorem dX6_clear_59 : decode cX6_clear 59 = .ok (.iconst 0, 1) := by decide +kernel
theorem dX6_clear_60 : decode cX6_clear 60 = .ok (.iastore, 1) := by decide +kernel
theorem dX6_clear_61 : decode cX6_clear 61 = .ok (.iload_n 1, 1) := by decide +kernel
theorem dX6_clear_62 : decode cX6_clear 62 = .ok (.ireturn, 1) := by decide +kernel
theorem dX6_letter_0 : decode cX6_letter 0 = .ok (.iload_n 1, 1) := by decide +kernel
theorem dX6_letter_1 : decode cX6_letter 1 = .ok (.iconst 0, 1) := by decide +kernel
theorem dX6_letter_2 : decode cX6_letter 2 = .ok (.aload_n 0, 1) := by decide +kernel
theorem dX6_letter_3 : decode cX6_letter 3 = .ok (.getfield 50, 3) := by decide +kernel
theorem dX6_letter_6 : decode cX6_letter 6 = .ok (.iconst 1, 1) := by decide +kernel
theorem dX6_letter_7 : decode cX6_letter 7 = .ok (.isub, 1) := by decide +kernel
theorem dX6_letter_8 : decode cX6_letter 8 = .ok (.invokestatic 63, 3) := by decide +kernel
theorem dX6_letter_11 : decode cX6_letter 11 = .ok (.ifCond .eq 22, 3) := by decide +kernel
theorem dX6_letter_14 : decode cX6_letter 14 = .ok (.iload_n 2, 1) := by decide +kernel
theorem dX6_letter_15 : decode cX6_letter 15 = .ok (.iconst 0, 1) := by decide +kernel
theorem dX6_letter_16 : decode cX6_letter 16 = .ok (.bipush 6, 2) := by decide +kernel
theorem dX6_letter_18 : decode cX6_letter 18 = .ok (.invokestatic 63, 3) := by decide +kernel
theorem dX6_letter_21 : decode cX6_letter 21 = .ok (.ifCond .eq 12, 3) := by decide +kernel
theorem dX6_letter_24 : decode cX6_letter 24 = .ok (.aload_n 0, 1) := by decide +kernel
theorem dX6_letter_25 : decode cX6_letter 25 = .ok (.iload_n 1, 1) := by decide +kernel
theorem dX6_letter_26 : decode cX6_letter 26 = .ok (.iload_n 2, 1) := by decide +kernel
theorem dX6_letter_27 : decode cX6_letter 27 = .ok (.invokevirtual 70, 3) := by decide +kernel
theorem dX6_letter_30 : decode cX6_letter 30 = .ok (.goto 4, 3) := by decide +kernel
theorem dX6_letter_33 : decode cX6_letter 33 = .ok (.iconst (-1), 1) := by decide +kernel
theorem dX6_letter_34 : decode cX6_letter 34 = .ok (.ireturn, 1) := by decide +kernel
theorem dX6_line_0 : decode cX6_line 0 = .ok (.iload_n 1, 1) := by decide +kernel
theorem dX6_line_1 : decode cX6_line 1 = .ok (.invokestatic 74, 3) := by decide +kernel
theorem dX6_line_4 : decode cX6_line 4 = .ok (.ifCond .eq 11, 3) := by decide +kernel
theorem dX6_line_7 : decode cX6_line 7 = .ok (.aload_n 0, 1) := by decide +kernel
theorem dX6_line_8 : decode cX6_line 8 = .ok (.iload_n 1, 1) := by decide +kernel
theorem dX6_line_9 : decode cX6_line 9 = .ok (.invokevirtual 78, 3) := by decide +kernel
theorem dX6_line_12 : decode cX6_line 12 = .ok (.goto 4, 3) := by decide +kernel
theorem dX6_line_15 : decode cX6_line 15 = .ok (.iconst (-1), 1) := by decide +kernel
theorem dX6_line_16 : decode cX6_line 16 = .ok (.ireturn, 1) := by decide +kernel
theorem dX6_queue_0 : decode cX6_queue 0 = .ok (.iload_n 1, 1) := by decide +kernel
theorem dX6_queue_1 : decode cX6_queue 1 = .ok (.invokestatic 74, 3) := by decide +kernel
theorem dX6_queue_4 : decode cX6_queue 4 = .ok (.ifCond .eq 16, 3) := by decide +kernel
theorem dX6_queue_7 : decode cX6_queue 7 = .ok (.iload_n 2, 1) := by decide +kernel
theorem dX6_queue_8 : decode cX6_queue 8 = .ok (.ifCond .lt 12, 3) := by decide +kernel
theorem dX6_queue_11 : decode cX6_queue 11 = .ok (.aload_n 0, 1) := by decide +kernel
theorem dX6_queue_12 : decode cX6_queue 12 = .ok (.iload_n 1, 1) := by decide +kernel
theorem dX6_queue_13 : decode cX6_queue 13 = .ok (.iload_n 2, 1) := by decide +kernel
theorem dX6_queue_14 : decode cX6_queue 14 = .ok (.invokevirtual 111, 3) := by decide +kernel
theorem dX6_queue_17 : decode cX6_queue 17 = .ok (.goto 4, 3) := by decide +kernel
theorem dX6_queue_20 : decode cX6_queue 20 = .ok (.iconst (-1), 1) := by decide +kernel
theorem dX6_queue_21 : decode cX6_queue 21 = .ok (.ireturn, 1) := by decide +kernel
theorem dX6_turned_0 : decode cX6_turned 0 = .ok (.iload_n 1, 1) := by decide +kernel
theorem dX6_turned_1 : decode cX6_turned 1 = .ok (.ifCond .ge 5, 3) := by decide +kernel
theorem dX6_turned_4 : decode cX6_turned 4 = .ok (.iconst (-1), 1) := by decide +kernel
theorem dX6_turned_5 : decode cX6_turned 5 = .ok (.ireturn, 1) := by decide +kernel
theorem dX6_turned_6 : decode cX6_turned 6 = .ok (.iconst 0, 1) := by decide +kernel
theorem dX6_turned_7 : decode cX6_turned 7 = .ok (.istore_n 2, 1) := by decide +kernel
theorem dX6_turned_8 : decode cX6_turned 8 = .ok (.iload_n 2, 1) := by decide +kernel
theorem dX6_turned_9 : decode cX6_turned 9 = .ok (.aload_n 0, 1) := by decide +kernel
theorem dX6_turned_10 : decode cX6_turned 10 = .ok (.getfield 50, 3) := by decide +kernel
theorem dX6_turned_13 : decode cX6_turned 13 = .ok (.if_icmp .ge 81, 3) := by decide +kernel
theorem dX6_turned_16 : decode cX6_turned 16 = .ok (.aload_n 0, 1) := by decide +kernel
theorem dX6_turned_17 : decode cX6_turned 17 = .ok (.iload_n 2, 1) := by decide +kernel
theorem dX6_turned_18 : decode cX6_turned 18 = .ok (.iconst 0, 1) := by decide +kernel
theorem dX6_turned_19 : decode cX6_turned 19 = .ok (.invokevirtual 70, 3) := by decide +kernel
theorem dX6_turned_22 : decode cX6_turned 22 = .ok (.iconst 1, 1) := by decide +kernel
theorem dX6_turned_23 : decode cX6_turned 23 = .ok (.if_icmp .ne 65, 3) := by decide +kernel
theorem dX6_turned_26 : decode cX6_turned 26 = .ok (.iconst 0, 1) := by decide +kernel
theorem dX6_turned_27 : decode cX6_turned 27 = .ok (.istore_n 3, 1) := by decide +kernel
theorem dX6_turned_28 : decode cX6_turned 28 = .ok (.iconst 0, 1) := by decide +kernel
theorem dX6_turned_29 : decode cX6_turned 29 = .ok (.istore 4, 2) := by decide +kernel
theorem dX6_turned_31 : decode cX6_turned 31 = .ok (.iload 4, 2) := by decide +kernel
theorem dX6_turned_33 : decode cX6_turned 33 = .ok (.aload_n 0, 1) := by decide +kernel
theorem dX6_turned_34 : decode cX6_turned 34 = .ok (.getfield 50, 3) := by decide +kernel
theorem dX6_turned_37 : decode cX6_turned 37 = .ok (.if_icmp .ge 44, 3) := by decide +kernel
theorem dX6_turned_40 : decode cX6_turned 40 = .ok (.iload_n 3, 1) := by decide +kernel
theorem dX6_turned_41 : decode cX6_turned 41 = .ok (.iload 4, 2) := by decide +kernel
theorem dX6_turned_43 : decode cX6_turned 43 = .ok (.iload_n 2, 1) := by decide +kernel
theorem dX6_turned_44 : decode cX6_turned 44 = .ok (.if_icmp .eq 28, 3) := by decide +kernel
theorem dX6_turned_47 : decode cX6_turned 47 = .ok (.aload_n 0, 1) := by decide +kernel
theorem dX6_turned_48 : decode cX6_turned 48 = .ok (.iload 4, 2) := by decide +kernel
theorem dX6_turned_50 : decode cX6_turned 50 = .ok (.iconst 0, 1) := by decide +kernel
theorem dX6_turned_51 : decode cX6_turned 51 = .ok (.invokevirtual 70, 3) := by decide +kernel
theorem dX6_turned_54 : decode cX6_turned 54 = .ok (.iconst 1, 1) := by decide +kernel
theorem dX6_turned_55 : decode cX6_turned 55 = .ok (.if_icmp .ne 17, 3) := by decide +kernel
theorem dX6_turned_58 : decode cX6_turned 58 = .ok (.aload_n 0, 1) := by decide +kernel
theorem dX6_turned_59 : decode cX6_turned 59 = .ok (.iload 4, 2) := by decide +kernel
theorem dX6_turned_61 : decode cX6_turned 61 = .ok (.iload_n 2, 1) := by decide +kernel
theorem dX6_turned_62 : decode cX6_turned 62 = .ok (.invokevirtual 86, 3) := by decide +kernel
theorem dX6_turned_65 : decode cX6_turned 65 = .ok (.ifCond .eq 7, 3) := by decide +kernel
theorem dX6_turned_68 : decode cX6_turned 68 = .ok (.iconst 1, 1) := by decide +kernel
theorem dX6_turned_69 : decode cX6_turned 69 = .ok (.goto 4, 3) := by decide +kernel
theorem dX6_turned_72 : decode cX6_turned 72 = .ok (.iconst 0, 1) := by decide +kernel
theorem dX6_turned_73 : decode cX6_turned 73 = .ok (.iadd, 1) := by decide +kernel
theorem dX6_turned_74 : decode cX6_turned 74 = .ok (.istore_n 3, 1) := by decide +kernel
theorem dX6_turned_75 : decode cX6_turned 75 = .ok (.iinc 4 1, 3) := by decide +kernel
theorem dX6_turned_78 : decode cX6_turned 78 = .ok (.goto (-47), 3) := by decide +kernel
theorem dX6_turned_81 : decode cX6_turned 81 = .ok (.iload_n 3, 1) := by decide +kernel
theorem dX6_turned_82 : decode cX6_turned 82 = .ok (.iload_n 1, 1) := by decide +kernel
theorem dX6_turned_83 : decode cX6_turned 83 = .ok (.if_icmp .ne 5, 3) := by decide +kernel
theorem dX6_turned_86 : decode cX6_turned 86 = .ok (.iload_n 2, 1) := by decide +kernel
theorem dX6_turned_87 : decode cX6_turned 87 = .ok (.ireturn, 1) := by decide +kernel
theorem dX6_turned_88 : decode cX6_turned 88 = .ok (.iinc 2 1, 3) := by decide +kernel
theorem dX6_turned_91 : decode cX6_turned 91 = .ok (.goto (-83), 3) := by decide +kernel
theorem dX6_turned_94 : decode cX6_turned 94 = .ok (.bipush (-9), 2) := by decide +kernel
theorem dX6_turned_96 : decode cX6_turned 96 = .ok (.ireturn, 1) := by decide +kernel
theorem dX6_sorted_0 : decode cX6_sorted 0 = .ok (.iload_n 1, 1) := by decide +kernel
theorem dX6_sorted_1 : decode cX6_sorted 1 = .ok (.ifCond .ge 5, 3) := by decide +kernel
theorem dX6_sorted_4 : decode cX6_sorted 4 = .ok (.iconst (-1), 1) := by decide +kernel
theorem dX6_sorted_5 : decode cX6_sorted 5 = .ok (.ireturn, 1) := by decide +kernel
theorem dX6_sorted_6 : decode cX6_sorted 6 = .ok (.aload_n 0, 1) := by decide +kernel
theorem dX6_sorted_7 : decode cX6_sorted 7 = .ok (.invokevirtual 102, 3) := by decide +kernel
theorem dX6_sorted_10 : decode cX6_sorted 10 = .ok (.iload_n 1, 1) := by decide +kernel
theorem dX6_sorted_11 : decode cX6_sorted 11 = .ok (.aload_n 0, 1) := by decide +kernel
theorem dX6_sorted_12 : decode cX6_sorted 12 = .ok (.getfield 90, 3) := by decide +kernel
theorem dX6_sorted_15 : decode cX6_sorted 15 = .ok (.if_icmp .ge 12, 3) := by decide +kernel
theorem dX6_sorted_18 : decode cX6_sorted 18 = .ok (.aload_n 0, 1) := by decide +kernel
theorem dX6_sorted_19 : decode cX6_sorted 19 = .ok (.getfield 29, 3) := by decide +kernel
theorem dX6_sorted_22 : decode cX6_sorted 22 = .ok (.iload_n 1, 1) := by decide +kernel
theorem dX6_sorted_23 : decode cX6_sorted 23 = .ok (.iaload, 1) := by decide +kernel
theorem dX6_sorted_24 : decode cX6_sorted 24 = .ok (.goto 5, 3) := by decide +kernel
theorem dX6_sorted_27 : decode cX6_sorted 27 = .ok (.bipush (-9), 2) := by decide +kernel
theorem dX6_sorted_29 : decode cX6_sorted 29 = .ok (.ireturn, 1) := by decide +kernel
theorem dX6_setStraight_0 : decode cX6_setStraight 0 = .ok (.iconst 0, 1) := by decide +kernel
theorem dX6_setStraight_1 : decode cX6_setStraight 1 = .ok (.istore_n 1, 1) := by decide +kernel
theorem dX6_setStraight_2 : decode cX6_setStraight 2 = .ok (.iload_n 1, 1) := by decide +kernel
theorem dX6_setStraight_3 : decode cX6_setStraight 3 = .ok (.bipush 8, 2) := by decide +kernel
theorem dX6_setStraight_5 : decode cX6_setStraight 5 = .ok (.if_icmp .ge 37, 3) := by decide +kernel
theorem dX6_setStraight_8 : decode cX6_setStraight 8 = .ok (.aload_n 0, 1) := by decide +kernel
theorem dX6_setStraight_9 : decode cX6_setStraight 9 = .ok (.getfield 35, 3) := by decide +kernel
theorem dX6_setStraight_12 : decode cX6_setStraight 12 = .ok (.iload_n 1, 1) := by decide +kernel
theorem dX6_setStraight_13 : decode cX6_setStraight 13 = .ok (.iload_n 1, 1) := by decide +kernel
theorem dX6_setStraight_14 : decode cX6_setStraight 14 = .ok (.iastore, 1) := by decide +kernel
theorem dX6_setStraight_15 : decode cX6_setStraight 15 = .ok (.aload_n 0, 1) := by decide +kernel
theorem dX6_setStraight_16 : decode cX6_setStraight 16 = .ok (.getfield 38, 3) := by decide +kernel
theorem dX6_setStraight_19 : decode cX6_setStraight 19 = .ok (.iload_n 1, 1) := by decide +kernel
theorem dX6_setStraight_20 : decode cX6_setStraight 20 = .ok (.aload_n 0, 1) := by decide +kernel
theorem dX6_setStraight_21 : decode cX6_setStraight 21 = .ok (.iload_n 1, 1) := by decide +kernel
theorem dX6_setStraight_22 : decode cX6_setStraight 22 = .ok (.invokevirtual 78, 3) := by decide +kernel
theorem dX6_setStraight_25 : decode cX6_setStraight 25 = .ok (.bipush (-9), 2) := by decide +kernel
theorem dX6_setStraight_27 : decode cX6_setStraight 27 = .ok (.if_icmp .ne 7, 3) := by decide +kernel
theorem dX6_setStraight_30 : decode cX6_setStraight 30 = .ok (.iconst 5, 1) := by decide +kernel
theorem dX6_setStraight_31 : decode cX6_setStraight 31 = .ok (.goto 4, 3) := by decide +kernel
theorem dX6_setStraight_34 : decode cX6_setStraight 34 = .ok (.iconst 0, 1) := by decide +kernel
theorem dX6_setStraight_35 : decode cX6_setStraight 35 = .ok (.iastore, 1) := by decide +kernel
theorem dX6_setStraight_36 : decode cX6_setStraight 36 = .ok (.iinc 1 1, 3) := by decide +kernel
theorem dX6_setStraight_39 : decode cX6_setStraight 39 = .ok (.goto (-37), 3) := by decide +kernel
theorem dX6_setStraight_42 : decode cX6_setStraight 42 = .ok (.iconst 1, 1) := by decide +kernel
theorem dX6_setStraight_43 : decode cX6_setStraight 43 = .ok (.istore_n 1, 1) := by decide +kernel
theorem dX6_setStraight_44 : decode cX6_setStraight 44 = .ok (.iload_n 1, 1) := by decide +kernel
theorem dX6_setStraight_45 : decode cX6_setStraight 45 = .ok (.iconst 3, 1) := by decide +kernel
theorem dX6_setStraight_46 : decode cX6_setStraight 46 = .ok (.if_icmp .gt 123, 3) := by decide +kernel
theorem dX6_setStraight_49 : decode cX6_setStraight 49 = .ok (.bipush 8, 2) := by decide +kernel
theorem dX6_setStraight_51 : decode cX6_setStraight 51 = .ok (.iload_n 1, 1) := by decide +kernel
theorem dX6_setStraight_52 : decode cX6_setStraight 52 = .ok (.ishr, 1) := by decide +kernel
theorem dX6_setStraight_53 : decode cX6_setStraight 53 = .ok (.istore_n 2, 1) := by decide +kernel
theorem dX6_setStraight_54 : decode cX6_setStraight 54 = .ok (.iconst 0, 1) := by decide +kernel
theorem dX6_setStraight_55 : decode cX6_setStraight 55 = .ok (.istore_n 3, 1) := by decide +kernel
theorem dX6_setStraight_56 : decode cX6_setStraight 56 = .ok (.iload_n 3, 1) := by decide +kernel
theorem dX6_setStraight_57 : decode cX6_setStraight 57 = .ok (.bipush 8, 2) := by decide +kernel
theorem dX6_setStraight_59 : decode cX6_setStraight 59 = .ok (.if_icmp .ge 104, 3) := by decide +kernel
theorem dX6_setStraight_62 : decode cX6_setStraight 62 = .ok (.aload_n 0, 1) := by decide +kernel
theorem dX6_setStraight_63 : decode cX6_setStraight 63 = .ok (.getfield 38, 3) := by decide +kernel
theorem dX6_setStraight_66 : decode cX6_setStraight 66 = .ok (.iload_n 3, 1) := by decide +kernel
theorem dX6_setStraight_67 : decode cX6_setStraight 67 = .ok (.iaload, 1) := by decide +kernel
theorem dX6_setStraight_68 : decode cX6_setStraight 68 = .ok (.ifCond .ne 89, 3) := by decide +kernel
theorem dX6_setStraight_71 : decode cX6_setStraight 71 = .ok (.aload_n 0, 1) := by decide +kernel
theorem dX6_setStraight_72 : decode cX6_setStraight 72 = .ok (.getfield 35, 3) := by decide +kernel
theorem dX6_setStraight_75 : decode cX6_setStraight 75 = .ok (.iload_n 3, 1) := by decide +kernel
theorem dX6_setStraight_76 : decode cX6_setStraight 76 = .ok (.aload_n 0, 1) := by decide +kernel
theorem dX6_setStraight_77 : decode cX6_setStraight 77 = .ok (.getfield 35, 3) := by decide +kernel
theorem dX6_setStraight_80 : decode cX6_setStraight 80 = .ok (.iload_n 3, 1) := by decide +kernel
theorem dX6_setStraight_81 : decode cX6_setStraight 81 = .ok (.iaload, 1) := by decide +kernel
theorem dX6_setStraight_82 : decode cX6_setStraight 82 = .ok (.iload_n 2, 1) := by decide +kernel
theorem dX6_setStraight_83 : decode cX6_setStraight 83 = .ok (.iconst (-1), 1) := by decide +kernel
theorem dX6_setStraight_84 : decode cX6_setStraight 84 = .ok (.ixor, 1) := by decide +kernel
theorem dX6_setStraight_85 : decode cX6_setStraight 85 = .ok (.iand, 1) := by decide +kernel
theorem dX6_setStraight_86 : decode cX6_setStraight 86 = .ok (.aload_n 0, 1) := by decide +kernel
theorem dX6_setStraight_87 : decode cX6_setStraight 87 = .ok (.aload_n 0, 1) := by decide +kernel
theorem dX6_setStraight_88 : decode cX6_setStraight 88 = .ok (.iload_n 3, 1) := by decide +kernel
theorem dX6_setStraight_89 : decode cX6_setStraight 89 = .ok (.invokevirtual 78, 3) := by decide +kernel
theorem dX6_setStraight_92 : decode cX6_setStraight 92 = .ok (.iconst 2, 1) := by decide +kernel
theorem dX6_setStraight_93 : decode cX6_setStraight 93 = .ok (.invokevirtual 70, 3) := by decide +kernel
theorem dX6_setStraight_96 : decode cX6_setStraight 96 = .ok (.iload_n 2, 1) := by decide +kernel
theorem dX6_setStraight_97 : decode cX6_setStraight 97 = .ok (.iand, 1) := by decide +kernel
theorem dX6_setStraight_98 : decode cX6_setStraight 98 = .ok (.ior, 1) := by decide +kernel
theorem dX6_setStraight_99 : decode cX6_setStraight 99 = .ok (.iastore, 1) := by decide +kernel
theorem dX6_setStraight_100 : decode cX6_setStraight 100 = .ok (.iconst 0, 1) := by decide +kernel
theorem dX6_setStraight_101 : decode cX6_setStraight 101 = .ok (.istore 4, 2) := by decide +kernel
theorem dX6_setStraight_103 : decode cX6_setStraight 103 = .ok (.iload 4, 2) := by decide +kernel
theorem dX6_setStraight_105 : decode cX6_setStraight 105 = .ok (.iload_n 3, 1) := by decide +kernel
theorem dX6_setStraight_106 : decode cX6_setStraight 106 = .ok (.if_icmp .ge 51, 3) := by decide +kernel
theorem dX6_setStraight_109 : decode cX6_setStraight 109 = .ok (.aload_n 0, 1) := by decide +kernel
theorem dX6_setStraight_110 : decode cX6_setStraight 110 = .ok (.getfield 38, 3) := by decide +kernel
theorem dX6_setStraight_113 : decode cX6_setStraight 113 = .ok (.iload_n 3, 1) := by decide +kernel
theorem dX6_setStraight_114 : decode cX6_setStraight 114 = .ok (.aload_n 0, 1) := by decide +kernel
theorem dX6_setStraight_115 : decode cX6_setStraight 115 = .ok (.getfield 38, 3) := by decide +kernel
theorem dX6_setStraight_118 : decode cX6_setStraight 118 = .ok (.iload 4, 2) := by decide +kernel
theorem dX6_setStraight_120 : decode cX6_setStraight 120 = .ok (.iaload, 1) := by decide +kernel
theorem dX6_setStraight_121 : decode cX6_setStraight 121 = .ok (.ifCond .ne 23, 3) := by decide +kernel
theorem dX6_setStraight_124 : decode cX6_setStraight 124 = .ok (.aload_n 0, 1) := by decide +kernel
theorem dX6_setStraight_125 : decode cX6_setStraight 125 = .ok (.getfield 35, 3) := by decide +kernel
theorem dX6_setStraight_128 : decode cX6_setStraight 128 = .ok (.iload 4, 2) := by decide +kernel
theorem dX6_setStraight_130 : decode cX6_setStraight 130 = .ok (.iaload, 1) := by decide +kernel
theorem dX6_setStraight_131 : decode cX6_setStraight 131 = .ok (.aload_n 0, 1) := by decide +kernel
theorem dX6_setStraight_132 : decode cX6_setStraight 132 = .ok (.getfield 35, 3) := by decide +kernel
theorem dX6_setStraight_135 : decode cX6_setStraight 135 = .ok (.iload_n 3, 1) := by decide +kernel
theorem dX6_setStraight_136 : decode cX6_setStraight 136 = .ok (.iaload, 1) := by decide +kernel
theorem dX6_setStraight_137 : decode cX6_setStraight 137 = .ok (.if_icmp .ne 7, 3) := by decide +kernel
theorem dX6_setStraight_140 : decode cX6_setStraight 140 = .ok (.iload_n 1, 1) := by decide +kernel
theorem dX6_setStraight_141 : decode cX6_setStraight 141 = .ok (.goto 9, 3) := by decide +kernel
theorem dX6_setStraight_144 : decode cX6_setStraight 144 = .ok (.aload_n 0, 1) := by decide +kernel
theorem dX6_setStraight_145 : decode cX6_setStraight 145 = .ok (.getfield 38, 3) := by decide +kernel
theorem dX6_setStraight_148 : decode cX6_setStraight 148 = .ok (.iload_n 3, 1) := by decide +kernel
theorem dX6_setStraight_149 : decode cX6_setStraight 149 = .ok (.iaload, 1) := by decide +kernel
theorem dX6_setStraight_150 : decode cX6_setStraight 150 = .ok (.iastore, 1) := by decide +kernel
theorem dX6_setStraight_151 : decode cX6_setStraight 151 = .ok (.iinc 4 1, 3) := by decide +kernel
theorem dX6_setStraight_154 : decode cX6_setStraight 154 = .ok (.goto (-51), 3) := by decide +kernel
theorem dX6_setStraight_157 : decode cX6_setStraight 157 = .ok (.iinc 3 1, 3) := by decide +kernel
theorem dX6_setStraight_160 : decode cX6_setStraight 160 = .ok (.goto (-104), 3) := by decide +kernel
theorem dX6_setStraight_163 : decode cX6_setStraight 163 = .ok (.iinc 1 1, 3) := by decide +kernel
theorem dX6_setStraight_166 : decode cX6_setStraight 166 = .ok (.goto (-122), 3) := by decide +kernel
theorem dX6_setStraight_169 : decode cX6_setStraight 169 = .ok (.return_, 1) := by decide +kernel
theorem dX6_straight_0 : decode cX6_straight 0 = .ok (.iload_n 1, 1) := by decide +kernel
theorem dX6_straight_1 : decode cX6_straight 1 = .ok (.invokestatic 74, 3) := by decide +kernel
theorem dX6_straight_4 : decode cX6_straight 4 = .ok (.ifCond .ne 5, 3) := by decide +kernel
theorem dX6_straight_7 : decode cX6_straight 7 = .ok (.iconst (-1), 1) := by decide +kernel
theorem dX6_straight_8 : decode cX6_straight 8 = .ok (.ireturn, 1) := by decide +kernel
theorem dX6_straight_9 : decode cX6_straight 9 = .ok (.aload_n 0, 1) := by decide +kernel
theorem dX6_straight_10 : decode cX6_straight 10 = .ok (.iload_n 1, 1) := by decide +kernel
theorem dX6_straight_11 : decode cX6_straight 11 = .ok (.invokevirtual 78, 3) := by decide +kernel
theorem dX6_straight_14 : decode cX6_straight 14 = .ok (.bipush (-9), 2) := by decide +kernel
theorem dX6_straight_16 : decode cX6_straight 16 = .ok (.if_icmp .ne 6, 3) := by decide +kernel
theorem dX6_straight_19 : decode cX6_straight 19 = .ok (.bipush (-2), 2) := by decide +kernel
theorem dX6_straight_21 : decode cX6_straight 21 = .ok (.ireturn, 1) := by decide +kernel
theorem dX6_straight_22 : decode cX6_straight 22 = .ok (.aload_n 0, 1) := by decide +kernel
theorem dX6_straight_23 : decode cX6_straight 23 = .ok (.invokevirtual 124, 3) := by decide +kernel
theorem dX6_straight_26 : decode cX6_straight 26 = .ok (.aload_n 0, 1) := by decide +kernel
theorem dX6_straight_27 : decode cX6_straight 27 = .ok (.getfield 38, 3) := by decide +kernel
theorem dX6_straight_30 : decode cX6_straight 30 = .ok (.iload_n 1, 1) := by decide +kernel
theorem dX6_straight_31 : decode cX6_straight 31 = .ok (.iaload, 1) := by decide +kernel
theorem dX6_straight_32 : decode cX6_straight 32 = .ok (.ireturn, 1) := by decide +kernel
theorem dX6_isOver_0 : decode cX6_isOver 0 = .ok (.aload_n 0, 1) := by decide +kernel
theorem dX6_isOver_1 : decode cX6_isOver 1 = .ok (.iconst 0, 1) := by decide +kernel
theorem dX6_isOver_2 : decode cX6_isOver 2 = .ok (.invokevirtual 99, 3) := by decide +kernel
theorem dX6_isOver_5 : decode cX6_isOver 5 = .ok (.aload_n 0, 1) := by decide +kernel
theorem dX6_isOver_6 : decode cX6_isOver 6 = .ok (.iconst 1, 1) := by decide +kernel
theorem dX6_isOver_7 : decode cX6_isOver 7 = .ok (.invokevirtual 99, 3) := by decide +kernel
theorem dX6_isOver_10 : decode cX6_isOver 10 = .ok (.iadd, 1) := by decide +kernel
theorem dX6_isOver_11 : decode cX6_isOver 11 = .ok (.aload_n 0, 1) := by decide +kernel
theorem dX6_isOver_12 : decode cX6_isOver 12 = .ok (.iconst 2, 1) := by decide +kernel
theorem dX6_isOver_13 : decode cX6_isOver 13 = .ok (.invokevirtual 99, 3) := by decide +kernel
theorem dX6_isOver_16 : decode cX6_isOver 16 = .ok (.iadd, 1) := by decide +kernel
theorem dX6_isOver_17 : decode cX6_isOver 17 = .ok (.ifCond .ne 7, 3) := by decide +kernel
theorem dX6_isOver_20 : decode cX6_isOver 20 = .ok (.iconst 1, 1) := by decide +kernel
theorem dX6_isOver_21 : decode cX6_isOver 21 = .ok (.goto 4, 3) := by decide +kernel
theorem dX6_isOver_24 : decode cX6_isOver 24 = .ok (.iconst 0, 1) := by decide +kernel
theorem dX6_isOver_25 : decode cX6_isOver 25 = .ok (.ireturn, 1) := by decide +kernel
theorem dX6_drain_0 : decode cX6_drain 0 = .ok (.aload_n 0, 1) := by decide +kernel
theorem dX6_drain_1 : decode cX6_drain 1 = .ok (.bipush 12, 2) := by decide +kernel
theorem dX6_drain_3 : decode cX6_drain 3 = .ok (.invokevirtual 59, 3) := by decide +kernel
theorem dX6_drain_6 : decode cX6_drain 6 = .ok (.iconst 0, 1) := by decide +kernel
theorem dX6_drain_7 : decode cX6_drain 7 = .ok (.istore_n 1, 1) := by decide +kernel
theorem dX6_drain_8 : decode cX6_drain 8 = .ok (.iload_n 1, 1) := by decide +kernel
theorem dX6_drain_9 : decode cX6_drain 9 = .ok (.bipush 99, 2) := by decide +kernel
theorem dX6_drain_11 : decode cX6_drain 11 = .ok (.if_icmp .ge 21, 3) := by decide +kernel
theorem dX6_drain_14 : decode cX6_drain 14 = .ok (.aload_n 0, 1) := by decide +kernel
theorem dX6_drain_15 : decode cX6_drain 15 = .ok (.invokevirtual 127, 3) := by decide +kernel
theorem dX6_drain_18 : decode cX6_drain 18 = .ok (.ifCond .ne 14, 3) := by decide +kernel
theorem dX6_drain_21 : decode cX6_drain 21 = .ok (.aload_n 0, 1) := by decide +kernel
theorem dX6_drain_22 : decode cX6_drain 22 = .ok (.invokevirtual 114, 3) := by decide +kernel
theorem dX6_drain_25 : decode cX6_drain 25 = .ok (.pop, 1) := by decide +kernel
theorem dX6_drain_26 : decode cX6_drain 26 = .ok (.iinc 1 1, 3) := by decide +kernel
theorem dX6_drain_29 : decode cX6_drain 29 = .ok (.goto (-21), 3) := by decide +kernel
theorem dX6_drain_32 : decode cX6_drain 32 = .ok (.aload_n 0, 1) := by decide +kernel
theorem dX6_drain_33 : decode cX6_drain 33 = .ok (.invokevirtual 127, 3) := by decide +kernel
theorem dX6_drain_36 : decode cX6_drain 36 = .ok (.ifCond .eq 7, 3) := by decide +kernel
theorem dX6_drain_39 : decode cX6_drain 39 = .ok (.iload_n 1, 1) := by decide +kernel
theorem dX6_drain_40 : decode cX6_drain 40 = .ok (.goto 5, 3) := by decide +kernel
theorem dX6_drain_43 : decode cX6_drain 43 = .ok (.bipush (-9), 2) := by decide +kernel
theorem dX6_drain_45 : decode cX6_drain 45 = .ok (.istore_n 2, 1) := by decide +kernel
theorem dX6_drain_46 : decode cX6_drain 46 = .ok (.aload_n 0, 1) := by decide +kernel
theorem dX6_drain_47 : decode cX6_drain 47 = .ok (.bipush 12, 2) := by decide +kernel
theorem dX6_drain_49 : decode cX6_drain 49 = .ok (.invokevirtual 118, 3) := by decide +kernel
theorem dX6_drain_52 : decode cX6_drain 52 = .ok (.iload_n 2, 1) := by decide +kernel
theorem dX6_drain_53 : decode cX6_drain 53 = .ok (.ireturn, 1) := by decide +kernel
theorem dX6_lostBy_0 : decode cX6_lostBy 0 = .ok (.aload_n 0, 1) := by decide +kernel
theorem dX6_lostBy_1 : decode cX6_lostBy 1 = .ok (.bipush 12, 2) := by decide +kernel
theorem dX6_lostBy_3 : decode cX6_lostBy 3 = .ok (.invokevirtual 59, 3) := by decide +kernel
theorem dX6_lostBy_6 : decode cX6_lostBy 6 = .ok (.aload_n 0, 1) := by decide +kernel
theorem dX6_lostBy_7 : decode cX6_lostBy 7 = .ok (.iload_n 2, 1) := by decide +kernel
theorem dX6_lostBy_8 : decode cX6_lostBy 8 = .ok (.putfield 7, 3) := by decide +kernel
theorem dX6_lostBy_11 : decode cX6_lostBy 11 = .ok (.aload_n 0, 1) := by decide +kernel
theorem dX6_lostBy_12 : decode cX6_lostBy 12 = .ok (.iconst 4, 1) := by decide +kernel
theorem dX6_lostBy_13 : decode cX6_lostBy 13 = .ok (.invokevirtual 99, 3) := by decide +kernel
theorem dX6_lostBy_16 : decode cX6_lostBy 16 = .ok (.istore_n 3, 1) := by decide +kernel
theorem dX6_lostBy_17 : decode cX6_lostBy 17 = .ok (.iconst 0, 1) := by decide +kernel
theorem dX6_lostBy_18 : decode cX6_lostBy 18 = .ok (.istore 4, 2) := by decide +kernel
theorem dX6_lostBy_20 : decode cX6_lostBy 20 = .ok (.iload 4, 2) := by decide +kernel
theorem dX6_lostBy_22 : decode cX6_lostBy 22 = .ok (.iload_n 1, 1) := by decide +kernel
theorem dX6_lostBy_23 : decode cX6_lostBy 23 = .ok (.if_icmp .ge 14, 3) := by decide +kernel
theorem dX6_lostBy_26 : decode cX6_lostBy 26 = .ok (.aload_n 0, 1) := by decide +kernel
theorem dX6_lostBy_27 : decode cX6_lostBy 27 = .ok (.invokevirtual 114, 3) := by decide +kernel
theorem dX6_lostBy_30 : decode cX6_lostBy 30 = .ok (.pop, 1) := by decide +kernel
theorem dX6_lostBy_31 : decode cX6_lostBy 31 = .ok (.iinc 4 1, 3) := by decide +kernel
theorem dX6_lostBy_34 : decode cX6_lostBy 34 = .ok (.goto (-14), 3) := by decide +kernel
theorem dX6_lostBy_37 : decode cX6_lostBy 37 = .ok (.aload_n 0, 1) := by decide +kernel
theorem dX6_lostBy_38 : decode cX6_lostBy 38 = .ok (.iconst 4, 1) := by decide +kernel
theorem dX6_lostBy_39 : decode cX6_lostBy 39 = .ok (.invokevirtual 99, 3) := by decide +kernel
theorem dX6_lostBy_42 : decode cX6_lostBy 42 = .ok (.iload_n 3, 1) := by decide +kernel
theorem dX6_lostBy_43 : decode cX6_lostBy 43 = .ok (.isub, 1) := by decide +kernel
theorem dX6_lostBy_44 : decode cX6_lostBy 44 = .ok (.istore 4, 2) := by decide +kernel
theorem dX6_lostBy_46 : decode cX6_lostBy 46 = .ok (.aload_n 0, 1) := by decide +kernel
theorem dX6_lostBy_47 : decode cX6_lostBy 47 = .ok (.bipush 12, 2) := by decide +kernel
theorem dX6_lostBy_49 : decode cX6_lostBy 49 = .ok (.invokevirtual 118, 3) := by decide +kernel
theorem dX6_lostBy_52 : decode cX6_lostBy 52 = .ok (.iload 4, 2) := by decide +kernel
theorem dX6_lostBy_54 : decode cX6_lostBy 54 = .ok (.ireturn, 1) := by decide +kernel
theorem dX6_lost_0 : decode cX6_lost 0 = .ok (.iload_n 1, 1) := by decide +kernel
theorem dX6_lost_1 : decode cX6_lost 1 = .ok (.iconst 0, 1) := by decide +kernel
theorem dX6_lost_2 : decode cX6_lost 2 = .ok (.bipush 40, 2) := by decide +kernel
theorem dX6_lost_4 : decode cX6_lost 4 = .ok (.invokestatic 63, 3) := by decide +kernel
theorem dX6_lost_7 : decode cX6_lost 7 = .ok (.ifCond .eq 15, 3) := by decide +kernel
theorem dX6_lost_10 : decode cX6_lost 10 = .ok (.aload_n 0, 1) := by decide +kernel
theorem dX6_lost_11 : decode cX6_lost 11 = .ok (.iload_n 1, 1) := by decide +kernel
theorem dX6_lost_12 : decode cX6_lost 12 = .ok (.aload_n 0, 1) := by decide +kernel
theorem dX6_lost_13 : decode cX6_lost 13 = .ok (.getfield 7, 3) := by decide +kernel
theorem dX6_lost_16 : decode cX6_lost 16 = .ok (.invokevirtual 131, 3) := by decide +kernel
theorem dX6_lost_19 : decode cX6_lost 19 = .ok (.goto 4, 3) := by decide +kernel
theorem dX6_lost_22 : decode cX6_lost 22 = .ok (.iconst (-1), 1) := by decide +kernel
theorem dX6_lost_23 : decode cX6_lost 23 = .ok (.ireturn, 1) := by decide +kernel
theorem dX6_fewest_0 : decode cX6_fewest 0 = .ok (.iload_n 1, 1) := by decide +kernel
theorem dX6_fewest_1 : decode cX6_fewest 1 = .ok (.iconst 0, 1) := by decide +kernel
theorem dX6_fewest_2 : decode cX6_fewest 2 = .ok (.bipush 40, 2) := by decide +kernel
theorem dX6_fewest_4 : decode cX6_fewest 4 = .ok (.invokestatic 63, 3) := by decide +kernel
theorem dX6_fewest_7 : decode cX6_fewest 7 = .ok (.ifCond .ne 5, 3) := by decide +kernel
theorem dX6_fewest_10 : decode cX6_fewest 10 = .ok (.iconst (-1), 1) := by decide +kernel
theorem dX6_fewest_11 : decode cX6_fewest 11 = .ok (.ireturn, 1) := by decide +kernel
theorem dX6_fewest_12 : decode cX6_fewest 12 = .ok (.iconst 1, 1) := by decide +kernel
theorem dX6_fewest_13 : decode cX6_fewest 13 = .ok (.istore_n 2, 1) := by decide +kernel
theorem dX6_fewest_14 : decode cX6_fewest 14 = .ok (.iload_n 2, 1) := by decide +kernel
theorem dX6_fewest_15 : decode cX6_fewest 15 = .ok (.iconst 3, 1) := by decide +kernel
theorem dX6_fewest_16 : decode cX6_fewest 16 = .ok (.if_icmp .gt 20, 3) := by decide +kernel
theorem dX6_fewest_19 : decode cX6_fewest 19 = .ok (.aload_n 0, 1) := by decide +kernel
theorem dX6_fewest_20 : decode cX6_fewest 20 = .ok (.iload_n 1, 1) := by decide +kernel
theorem dX6_fewest_21 : decode cX6_fewest 21 = .ok (.iload_n 2, 1) := by decide +kernel
theorem dX6_fewest_22 : decode cX6_fewest 22 = .ok (.invokevirtual 131, 3) := by decide +kernel
theorem dX6_fewest_25 : decode cX6_fewest 25 = .ok (.ifCond .ne 5, 3) := by decide +kernel
theorem dX6_fewest_28 : decode cX6_fewest 28 = .ok (.iload_n 2, 1) := by decide +kernel
theorem dX6_fewest_29 : decode cX6_fewest 29 = .ok (.ireturn, 1) := by decide +kernel
theorem dX6_fewest_30 : decode cX6_fewest 30 = .ok (.iinc 2 1, 3) := by decide +kernel
theorem dX6_fewest_33 : decode cX6_fewest 33 = .ok (.goto (-19), 3) := by decide +kernel
theorem dX6_fewest_36 : decode cX6_fewest 36 = .ok (.bipush (-9), 2) := by decide +kernel
theorem dX6_fewest_38 : decode cX6_fewest 38 = .ok (.ireturn, 1) := by decide +kernel
theorem dX6_power_0 : decode cX6_power 0 = .ok (.lconst 1, 1) := by decide +kernel
theorem dX6_power_1 : decode cX6_power 1 = .ok (.lstore_n 3, 1) := by decide +kernel
theorem dX6_power_2 : decode cX6_power 2 = .ok (.iconst 0, 1) := by decide +kernel
theorem dX6_power_3 : decode cX6_power 3 = .ok (.istore 5, 2) := by decide +kernel
theorem dX6_power_5 : decode cX6_power 5 = .ok (.iload 5, 2) := by decide +kernel
theorem dX6_power_7 : decode cX6_power 7 = .ok (.iload_n 2, 1) := by decide +kernel
theorem dX6_power_8 : decode cX6_power 8 = .ok (.if_icmp .ge 13, 3) := by decide +kernel
theorem dX6_power_11 : decode cX6_power 11 = .ok (.lload_n 3, 1) := by decide +kernel
theorem dX6_power_12 : decode cX6_power 12 = .ok (.lload_n 0, 1) := by decide +kernel
theorem dX6_power_13 : decode cX6_power 13 = .ok (.lmul, 1) := by decide +kernel
theorem dX6_power_14 : decode cX6_power 14 = .ok (.lstore_n 3, 1) := by decide +kernel
theorem dX6_power_15 : decode cX6_power 15 = .ok (.iinc 5 1, 3) := by decide +kernel
theorem dX6_power_18 : decode cX6_power 18 = .ok (.goto (-13), 3) := by decide +kernel
theorem dX6_power_21 : decode cX6_power 21 = .ok (.lload_n 3, 1) := by decide +kernel
theorem dX6_power_22 : decode cX6_power 22 = .ok (.lreturn, 1) := by decide +kernel
theorem dX6_ways_0 : decode cX6_ways 0 = .ok (.lconst 1, 1) := by decide +kernel
theorem dX6_ways_1 : decode cX6_ways 1 = .ok (.lstore_n 1, 1) := by decide +kernel
theorem dX6_ways_2 : decode cX6_ways 2 = .ok (.iconst 0, 1) := by decide +kernel
theorem dX6_ways_3 : decode cX6_ways 3 = .ok (.istore_n 3, 1) := by decide +kernel
theorem dX6_ways_4 : decode cX6_ways 4 = .ok (.iload_n 3, 1) := by decide +kernel
theorem dX6_ways_5 : decode cX6_ways 5 = .ok (.iload_n 0, 1) := by decide +kernel
theorem dX6_ways_6 : decode cX6_ways 6 = .ok (.if_icmp .ge 22, 3) := by decide +kernel
theorem dX6_ways_9 : decode cX6_ways 9 = .ok (.lload_n 1, 1) := by decide +kernel
theorem dX6_ways_10 : decode cX6_ways 10 = .ok (.bipush 8, 2) := by decide +kernel
theorem dX6_ways_12 : decode cX6_ways 12 = .ok (.iload_n 3, 1) := by decide +kernel
theorem dX6_ways_13 : decode cX6_ways 13 = .ok (.isub, 1) := by decide +kernel
theorem dX6_ways_14 : decode cX6_ways 14 = .ok (.i2l, 1) := by decide +kernel
theorem dX6_ways_15 : decode cX6_ways 15 = .ok (.lmul, 1) := by decide +kernel
theorem dX6_ways_16 : decode cX6_ways 16 = .ok (.iload_n 3, 1) := by decide +kernel
theorem dX6_ways_17 : decode cX6_ways 17 = .ok (.iconst 1, 1) := by decide +kernel
theorem dX6_ways_18 : decode cX6_ways 18 = .ok (.iadd, 1) := by decide +kernel
theorem dX6_ways_19 : decode cX6_ways 19 = .ok (.i2l, 1) := by decide +kernel
theorem dX6_ways_20 : decode cX6_ways 20 = .ok (.ldiv, 1) := by decide +kernel
theorem dX6_ways_21 : decode cX6_ways 21 = .ok (.lstore_n 1, 1) := by decide +kernel
theorem dX6_ways_22 : decode cX6_ways 22 = .ok (.iinc 3 1, 3) := by decide +kernel
theorem dX6_ways_25 : decode cX6_ways 25 = .ok (.goto (-21), 3) := by decide +kernel
theorem dX6_ways_28 : decode cX6_ways 28 = .ok (.lload_n 1, 1) := by decide +kernel
theorem dX6_ways_29 : decode cX6_ways 29 = .ok (.lreturn, 1) := by decide +kernel
theorem dX6_gcd_0 : decode cX6_gcd 0 = .ok (.lload_n 0, 1) := by decide +kernel
theorem dX6_gcd_1 : decode cX6_gcd 1 = .ok (.lstore 4, 2) := by decide +kernel
theorem dX6_gcd_3 : decode cX6_gcd 3 = .ok (.lload_n 2, 1) := by decide +kernel
theorem dX6_gcd_4 : decode cX6_gcd 4 = .ok (.lstore 6, 2) := by decide +kernel
theorem dX6_gcd_6 : decode cX6_gcd 6 = .ok (.lload 6, 2) := by decide +kernel
theorem dX6_gcd_8 : decode cX6_gcd 8 = .ok (.lconst 0, 1) := by decide +kernel
theorem dX6_gcd_9 : decode cX6_gcd 9 = .ok (.lcmp, 1) := by decide +kernel
theorem dX6_gcd_10 : decode cX6_gcd 10 = .ok (.ifCond .eq 21, 3) := by decide +kernel
theorem dX6_gcd_13 : decode cX6_gcd 13 = .ok (.lload 4, 2) := by decide +kernel
theorem dX6_gcd_15 : decode cX6_gcd 15 = .ok (.lload 6, 2) := by decide +kernel
theorem dX6_gcd_17 : decode cX6_gcd 17 = .ok (.lrem, 1) := by decide +kernel
theorem dX6_gcd_18 : decode cX6_gcd 18 = .ok (.lstore 8, 2) := by decide +kernel
theorem dX6_gcd_20 : decode cX6_gcd 20 = .ok (.lload 6, 2) := by decide +kernel
theorem dX6_gcd_22 : decode cX6_gcd 22 = .ok (.lstore 4, 2) := by decide +kernel
theorem dX6_gcd_24 : decode cX6_gcd 24 = .ok (.lload 8, 2) := by decide +kernel
theorem dX6_gcd_26 : decode cX6_gcd 26 = .ok (.lstore 6, 2) := by decide +kernel
theorem dX6_gcd_28 : decode cX6_gcd 28 = .ok (.goto (-22), 3) := by decide +kernel
theorem dX6_gcd_31 : decode cX6_gcd 31 = .ok (.lload 4, 2) := by decide +kernel
theorem dX6_gcd_33 : decode cX6_gcd 33 = .ok (.lreturn, 1) := by decide +kernel
theorem dX6_share_0 : decode cX6_share 0 = .ok (.iload_n 1, 1) := by decide +kernel
theorem dX6_share_1 : decode cX6_share 1 = .ok (.iconst 0, 1) := by decide +kernel
theorem dX6_share_2 : decode cX6_share 2 = .ok (.bipush 10, 2) := by decide +kernel
theorem dX6_share_4 : decode cX6_share 4 = .ok (.invokestatic 63, 3) := by decide +kernel
theorem dX6_share_7 : decode cX6_share 7 = .ok (.ifCond .eq 22, 3) := by decide +kernel
theorem dX6_share_10 : decode cX6_share 10 = .ok (.iload_n 2, 1) := by decide +kernel
theorem dX6_share_11 : decode cX6_share 11 = .ok (.iconst 0, 1) := by decide +kernel
theorem dX6_share_12 : decode cX6_share 12 = .ok (.bipush 8, 2) := by decide +kernel
theorem dX6_share_14 : decode cX6_share 14 = .ok (.invokestatic 63, 3) := by decide +kernel
theorem dX6_share_17 : decode cX6_share 17 = .ok (.ifCond .eq 12, 3) := by decide +kernel
theorem dX6_share_20 : decode cX6_share 20 = .ok (.iload_n 3, 1) := by decide +kernel
theorem dX6_share_21 : decode cX6_share 21 = .ok (.iconst 0, 1) := by decide +kernel
theorem dX6_share_22 : decode cX6_share 22 = .ok (.iconst 1, 1) := by decide +kernel
theorem dX6_share_23 : decode cX6_share 23 = .ok (.invokestatic 63, 3) := by decide +kernel
theorem dX6_share_26 : decode cX6_share 26 = .ok (.ifCond .ne 7, 3) := by decide +kernel
theorem dX6_share_29 : decode cX6_share 29 = .ok (.ldc2_w 134, 3) := by decide +kernel
theorem dX6_share_32 : decode cX6_share 32 = .ok (.lreturn, 1) := by decide +kernel
theorem dX6_share_33 : decode cX6_share 33 = .ok (.lconst 0, 1) := by decide +kernel
theorem dX6_share_34 : decode cX6_share 34 = .ok (.lstore 4, 2) := by decide +kernel
theorem dX6_share_36 : decode cX6_share 36 = .ok (.iload_n 2, 1) := by decide +kernel
theorem dX6_share_37 : decode cX6_share 37 = .ok (.iconst 1, 1) := by decide +kernel
theorem dX6_share_38 : decode cX6_share 38 = .ok (.iadd, 1) := by decide +kernel
theorem dX6_share_39 : decode cX6_share 39 = .ok (.istore 6, 2) := by decide +kernel
theorem dX6_share_41 : decode cX6_share 41 = .ok (.iload 6, 2) := by decide +kernel
theorem dX6_share_43 : decode cX6_share 43 = .ok (.bipush 8, 2) := by decide +kernel
theorem dX6_share_45 : decode cX6_share 45 = .ok (.if_icmp .gt 48, 3) := by decide +kernel
theorem dX6_share_48 : decode cX6_share 48 = .ok (.lload 4, 2) := by decide +kernel
theorem dX6_share_50 : decode cX6_share 50 = .ok (.iload 6, 2) := by decide +kernel
theorem dX6_share_52 : decode cX6_share 52 = .ok (.iload_n 2, 1) := by decide +kernel
theorem dX6_share_53 : decode cX6_share 53 = .ok (.isub, 1) := by decide +kernel
theorem dX6_share_54 : decode cX6_share 54 = .ok (.i2l, 1) := by decide +kernel
theorem dX6_share_55 : decode cX6_share 55 = .ok (.iload 6, 2) := by decide +kernel
theorem dX6_share_57 : decode cX6_share 57 = .ok (.invokestatic 136, 3) := by decide +kernel
theorem dX6_share_60 : decode cX6_share 60 = .ok (.lmul, 1) := by decide +kernel
theorem dX6_share_61 : decode cX6_share 61 = .ok (.iload_n 1, 1) := by decide +kernel
theorem dX6_share_62 : decode cX6_share 62 = .ok (.i2l, 1) := by decide +kernel
theorem dX6_share_63 : decode cX6_share 63 = .ok (.iload 6, 2) := by decide +kernel
theorem dX6_share_65 : decode cX6_share 65 = .ok (.invokestatic 140, 3) := by decide +kernel
theorem dX6_share_68 : decode cX6_share 68 = .ok (.lmul, 1) := by decide +kernel
theorem dX6_share_69 : decode cX6_share 69 = .ok (.ldc2_w 144, 3) := by decide +kernel
theorem dX6_share_72 : decode cX6_share 72 = .ok (.iload_n 1, 1) := by decide +kernel
theorem dX6_share_73 : decode cX6_share 73 = .ok (.i2l, 1) := by decide +kernel
theorem dX6_share_74 : decode cX6_share 74 = .ok (.lsub, 1) := by decide +kernel
theorem dX6_share_75 : decode cX6_share 75 = .ok (.bipush 8, 2) := by decide +kernel
theorem dX6_share_77 : decode cX6_share 77 = .ok (.iload 6, 2) := by decide +kernel
theorem dX6_share_79 : decode cX6_share 79 = .ok (.isub, 1) := by decide +kernel
theorem dX6_share_80 : decode cX6_share 80 = .ok (.invokestatic 140, 3) := by decide +kernel
theorem dX6_share_83 : decode cX6_share 83 = .ok (.lmul, 1) := by decide +kernel
theorem dX6_share_84 : decode cX6_share 84 = .ok (.ladd, 1) := by decide +kernel
theorem dX6_share_85 : decode cX6_share 85 = .ok (.lstore 4, 2) := by decide +kernel
theorem dX6_share_87 : decode cX6_share 87 = .ok (.iinc 6 1, 3) := by decide +kernel
theorem dX6_share_90 : decode cX6_share 90 = .ok (.goto (-49), 3) := by decide +kernel
theorem dX6_share_93 : decode cX6_share 93 = .ok (.ldc2_w 144, 3) := by decide +kernel
theorem dX6_share_96 : decode cX6_share 96 = .ok (.bipush 8, 2) := by decide +kernel
theorem dX6_share_98 : decode cX6_share 98 = .ok (.invokestatic 140, 3) := by decide +kernel
theorem dX6_share_101 : decode cX6_share 101 = .ok (.lstore 6, 2) := by decide +kernel
theorem dX6_share_103 : decode cX6_share 103 = .ok (.lload 4, 2) := by decide +kernel
theorem dX6_share_105 : decode cX6_share 105 = .ok (.lload 6, 2) := by decide +kernel
theorem dX6_share_107 : decode cX6_share 107 = .ok (.invokestatic 146, 3) := by decide +kernel
theorem dX6_share_110 : decode cX6_share 110 = .ok (.lstore 8, 2) := by decide +kernel
theorem dX6_share_112 : decode cX6_share 112 = .ok (.iload_n 3, 1) := by decide +kernel
theorem dX6_share_113 : decode cX6_share 113 = .ok (.ifCond .ne 11, 3) := by decide +kernel
theorem dX6_share_116 : decode cX6_share 116 = .ok (.lload 4, 2) := by decide +kernel
theorem dX6_share_118 : decode cX6_share 118 = .ok (.lload 8, 2) := by decide +kernel
theorem dX6_share_120 : decode cX6_share 120 = .ok (.ldiv, 1) := by decide +kernel
theorem dX6_share_121 : decode cX6_share 121 = .ok (.goto 8, 3) := by decide +kernel
theorem dX6_share_124 : decode cX6_share 124 = .ok (.lload 6, 2) := by decide +kernel
theorem dX6_share_126 : decode cX6_share 126 = .ok (.lload 8, 2) := by decide +kernel
theorem dX6_share_128 : decode cX6_share 128 = .ok (.ldiv, 1) := by decide +kernel
theorem dX6_share_129 : decode cX6_share 129 = .ok (.lreturn, 1) := by decide +kernel
theorem dX6_sees_0 : decode cX6_sees 0 = .ok (.iload_n 1, 1) := by decide +kernel
theorem dX6_sees_1 : decode cX6_sees 1 = .ok (.iconst 1, 1) := by decide +kernel
theorem dX6_sees_2 : decode cX6_sees 2 = .ok (.bipush 40, 2) := by decide +kernel
theorem dX6_sees_4 : decode cX6_sees 4 = .ok (.invokestatic 63, 3) := by decide +kernel
theorem dX6_sees_7 : decode cX6_sees 7 = .ok (.ifCond .eq 13, 3) := by decide +kernel
theorem dX6_sees_10 : decode cX6_sees 10 = .ok (.iload_n 2, 1) := by decide +kernel
theorem dX6_sees_11 : decode cX6_sees 11 = .ok (.iconst 0, 1) := by decide +kernel
theorem dX6_sees_12 : decode cX6_sees 12 = .ok (.bipush 64, 2) := by decide +kernel
theorem dX6_sees_14 : decode cX6_sees 14 = .ok (.invokestatic 63, 3) := by decide +kernel
theorem dX6_sees_17 : decode cX6_sees 17 = .ok (.ifCond .ne 5, 3) := by decide +kernel
theorem dX6_sees_20 : decode cX6_sees 20 = .ok (.iconst (-1), 1) := by decide +kernel
theorem dX6_sees_21 : decode cX6_sees 21 = .ok (.ireturn, 1) := by decide +kernel
theorem dX6_sees_22 : decode cX6_sees 22 = .ok (.aload_n 0, 1) := by decide +kernel
theorem dX6_sees_23 : decode cX6_sees 23 = .ok (.getfield 121, 3) := by decide +kernel
theorem dX6_sees_26 : decode cX6_sees 26 = .ok (.bipush 6, 2) := by decide +kernel
theorem dX6_sees_28 : decode cX6_sees 28 = .ok (.if_icmp .ne 6, 3) := by decide +kernel
theorem dX6_sees_31 : decode cX6_sees 31 = .ok (.bipush (-3), 2) := by decide +kernel
theorem dX6_sees_33 : decode cX6_sees 33 = .ok (.ireturn, 1) := by decide +kernel
theorem dX6_sees_34 : decode cX6_sees 34 = .ok (.aload_n 0, 1) := by decide +kernel
theorem dX6_sees_35 : decode cX6_sees 35 = .ok (.getfield 41, 3) := by decide +kernel
theorem dX6_sees_38 : decode cX6_sees 38 = .ok (.aload_n 0, 1) := by decide +kernel
theorem dX6_sees_39 : decode cX6_sees 39 = .ok (.getfield 121, 3) := by decide +kernel
theorem dX6_sees_42 : decode cX6_sees 42 = .ok (.iload_n 1, 1) := by decide +kernel
theorem dX6_sees_43 : decode cX6_sees 43 = .ok (.iastore, 1) := by decide +kernel
theorem dX6_sees_44 : decode cX6_sees 44 = .ok (.aload_n 0, 1) := by decide +kernel
theorem dX6_sees_45 : decode cX6_sees 45 = .ok (.getfield 44, 3) := by decide +kernel
theorem dX6_sees_48 : decode cX6_sees 48 = .ok (.aload_n 0, 1) := by decide +kernel
theorem dX6_sees_49 : decode cX6_sees 49 = .ok (.getfield 121, 3) := by decide +kernel
theorem dX6_sees_52 : decode cX6_sees 52 = .ok (.iload_n 2, 1) := by decide +kernel
theorem dX6_sees_53 : decode cX6_sees 53 = .ok (.iastore, 1) := by decide +kernel
theorem dX6_sees_54 : decode cX6_sees 54 = .ok (.aload_n 0, 1) := by decide +kernel
theorem dX6_sees_55 : decode cX6_sees 55 = .ok (.dup, 1) := by decide +kernel
theorem dX6_sees_56 : decode cX6_sees 56 = .ok (.getfield 121, 3) := by decide +kernel
theorem dX6_sees_59 : decode cX6_sees 59 = .ok (.iconst 1, 1) := by decide +kernel
theorem dX6_sees_60 : decode cX6_sees 60 = .ok (.iadd, 1) := by decide +kernel
theorem dX6_sees_61 : decode cX6_sees 61 = .ok (.putfield 121, 3) := by decide +kernel
theorem dX6_sees_64 : decode cX6_sees 64 = .ok (.aload_n 0, 1) := by decide +kernel
theorem dX6_sees_65 : decode cX6_sees 65 = .ok (.getfield 121, 3) := by decide +kernel
theorem dX6_sees_68 : decode cX6_sees 68 = .ok (.ireturn, 1) := by decide +kernel
theorem dX6_forget_0 : decode cX6_forget 0 = .ok (.aload_n 0, 1) := by decide +kernel
theorem dX6_forget_1 : decode cX6_forget 1 = .ok (.getfield 121, 3) := by decide +kernel
theorem dX6_forget_4 : decode cX6_forget 4 = .ok (.istore_n 1, 1) := by decide +kernel
theorem dX6_forget_5 : decode cX6_forget 5 = .ok (.aload_n 0, 1) := by decide +kernel
theorem dX6_forget_6 : decode cX6_forget 6 = .ok (.iconst 0, 1) := by decide +kernel
theorem dX6_forget_7 : decode cX6_forget 7 = .ok (.putfield 121, 3) := by decide +kernel
theorem dX6_forget_10 : decode cX6_forget 10 = .ok (.iload_n 1, 1) := by decide +kernel
theorem dX6_forget_11 : decode cX6_forget 11 = .ok (.ireturn, 1) := by decide +kernel
theorem dX6_outWithout_0 : decode cX6_outWithout 0 = .ok (.aload_n 0, 1) := by decide +kernel
theorem dX6_outWithout_1 : decode cX6_outWithout 1 = .ok (.bipush 12, 2) := by decide +kernel
theorem dX6_outWithout_3 : decode cX6_outWithout 3 = .ok (.invokevirtual 59, 3) := by decide +kernel
theorem dX6_outWithout_6 : decode cX6_outWithout 6 = .ok (.aload_n 0, 1) := by decide +kernel
theorem dX6_outWithout_7 : decode cX6_outWithout 7 = .ok (.iload_n 1, 1) := by decide +kernel
theorem dX6_outWithout_8 : decode cX6_outWithout 8 = .ok (.iconst 0, 1) := by decide +kernel
theorem dX6_outWithout_9 : decode cX6_outWithout 9 = .ok (.iconst 5, 1) := by decide +kernel
theorem dX6_outWithout_10 : decode cX6_outWithout 10 = .ok (.invokevirtual 82, 3) := by decide +kernel
theorem dX6_outWithout_13 : decode cX6_outWithout 13 = .ok (.iconst 0, 1) := by decide +kernel
theorem dX6_outWithout_14 : decode cX6_outWithout 14 = .ok (.istore_n 3, 1) := by decide +kernel
theorem dX6_outWithout_15 : decode cX6_outWithout 15 = .ok (.iconst 0, 1) := by decide +kernel
theorem dX6_outWithout_16 : decode cX6_outWithout 16 = .ok (.istore 4, 2) := by decide +kernel
theorem dX6_outWithout_18 : decode cX6_outWithout 18 = .ok (.iload 4, 2) := by decide +kernel
theorem dX6_outWithout_20 : decode cX6_outWithout 20 = .ok (.iload_n 2, 1) := by decide +kernel
theorem dX6_outWithout_21 : decode cX6_outWithout 21 = .ok (.if_icmp .ge 16, 3) := by decide +kernel
theorem dX6_outWithout_24 : decode cX6_outWithout 24 = .ok (.iload_n 3, 1) := by decide +kernel
theorem dX6_outWithout_25 : decode cX6_outWithout 25 = .ok (.aload_n 0, 1) := by decide +kernel
theorem dX6_outWithout_26 : decode cX6_outWithout 26 = .ok (.invokevirtual 114, 3) := by decide +kernel
theorem dX6_outWithout_29 : decode cX6_outWithout 29 = .ok (.iadd, 1) := by decide +kernel
theorem dX6_outWithout_30 : decode cX6_outWithout 30 = .ok (.istore_n 3, 1) := by decide +kernel
theorem dX6_outWithout_31 : decode cX6_outWithout 31 = .ok (.iinc 4 1, 3) := by decide +kernel
theorem dX6_outWithout_34 : decode cX6_outWithout 34 = .ok (.goto (-16), 3) := by decide +kernel
theorem dX6_outWithout_37 : decode cX6_outWithout 37 = .ok (.aload_n 0, 1) := by decide +kernel
theorem dX6_outWithout_38 : decode cX6_outWithout 38 = .ok (.bipush 12, 2) := by decide +kernel
theorem dX6_outWithout_40 : decode cX6_outWithout 40 = .ok (.invokevirtual 118, 3) := by decide +kernel
theorem dX6_outWithout_43 : decode cX6_outWithout 43 = .ok (.iload_n 3, 1) := by decide +kernel
theorem dX6_outWithout_44 : decode cX6_outWithout 44 = .ok (.ireturn, 1) := by decide +kernel
theorem dX6_unseen_0 : decode cX6_unseen 0 = .ok (.iconst 0, 1) := by decide +kernel
theorem dX6_unseen_1 : decode cX6_unseen 1 = .ok (.istore_n 1, 1) := by decide +kernel
theorem dX6_unseen_2 : decode cX6_unseen 2 = .ok (.iconst 0, 1) := by decide +kernel
theorem dX6_unseen_3 : decode cX6_unseen 3 = .ok (.istore_n 2, 1) := by decide +kernel
theorem dX6_unseen_4 : decode cX6_unseen 4 = .ok (.iload_n 2, 1) := by decide +kernel
theorem dX6_unseen_5 : decode cX6_unseen 5 = .ok (.bipush 8, 2) := by decide +kernel
theorem dX6_unseen_7 : decode cX6_unseen 7 = .ok (.if_icmp .ge 95, 3) := by decide +kernel
theorem dX6_unseen_10 : decode cX6_unseen 10 = .ok (.aload_n 0, 1) := by decide +kernel
theorem dX6_unseen_11 : decode cX6_unseen 11 = .ok (.iload_n 2, 1) := by decide +kernel
theorem dX6_unseen_12 : decode cX6_unseen 12 = .ok (.invokevirtual 78, 3) := by decide +kernel
theorem dX6_unseen_15 : decode cX6_unseen 15 = .ok (.istore_n 3, 1) := by decide +kernel
theorem dX6_unseen_16 : decode cX6_unseen 16 = .ok (.iload_n 3, 1) := by decide +kernel
theorem dX6_unseen_17 : decode cX6_unseen 17 = .ok (.bipush (-9), 2) := by decide +kernel
theorem dX6_unseen_19 : decode cX6_unseen 19 = .ok (.if_icmp .eq 7, 3) := by decide +kernel
theorem dX6_unseen_22 : decode cX6_unseen 22 = .ok (.iconst 1, 1) := by decide +kernel
theorem dX6_unseen_23 : decode cX6_unseen 23 = .ok (.goto 4, 3) := by decide +kernel
theorem dX6_unseen_26 : decode cX6_unseen 26 = .ok (.iconst 0, 1) := by decide +kernel
theorem dX6_unseen_27 : decode cX6_unseen 27 = .ok (.istore 4, 2) := by decide +kernel
theorem dX6_unseen_29 : decode cX6_unseen 29 = .ok (.iconst 0, 1) := by decide +kernel
theorem dX6_unseen_30 : decode cX6_unseen 30 = .ok (.istore 5, 2) := by decide +kernel
theorem dX6_unseen_32 : decode cX6_unseen 32 = .ok (.iload 5, 2) := by decide +kernel
theorem dX6_unseen_34 : decode cX6_unseen 34 = .ok (.aload_n 0, 1) := by decide +kernel
theorem dX6_unseen_35 : decode cX6_unseen 35 = .ok (.getfield 121, 3) := by decide +kernel
theorem dX6_unseen_38 : decode cX6_unseen 38 = .ok (.if_icmp .ge 43, 3) := by decide +kernel
theorem dX6_unseen_41 : decode cX6_unseen 41 = .ok (.iload 4, 2) := by decide +kernel
theorem dX6_unseen_43 : decode cX6_unseen 43 = .ok (.ifCond .eq 38, 3) := by decide +kernel
theorem dX6_unseen_46 : decode cX6_unseen 46 = .ok (.aload_n 0, 1) := by decide +kernel
theorem dX6_unseen_47 : decode cX6_unseen 47 = .ok (.iload_n 3, 1) := by decide +kernel
theorem dX6_unseen_48 : decode cX6_unseen 48 = .ok (.aload_n 0, 1) := by decide +kernel
theorem dX6_unseen_49 : decode cX6_unseen 49 = .ok (.getfield 41, 3) := by decide +kernel
theorem dX6_unseen_52 : decode cX6_unseen 52 = .ok (.iload 5, 2) := by decide +kernel
theorem dX6_unseen_54 : decode cX6_unseen 54 = .ok (.iaload, 1) := by decide +kernel
theorem dX6_unseen_55 : decode cX6_unseen 55 = .ok (.invokevirtual 150, 3) := by decide +kernel
theorem dX6_unseen_58 : decode cX6_unseen 58 = .ok (.aload_n 0, 1) := by decide +kernel
theorem dX6_unseen_59 : decode cX6_unseen 59 = .ok (.getfield 44, 3) := by decide +kernel
theorem dX6_unseen_62 : decode cX6_unseen 62 = .ok (.iload 5, 2) := by decide +kernel
theorem dX6_unseen_64 : decode cX6_unseen 64 = .ok (.iaload, 1) := by decide +kernel
theorem dX6_unseen_65 : decode cX6_unseen 65 = .ok (.if_icmp .ne 7, 3) := by decide +kernel
theorem dX6_unseen_68 : decode cX6_unseen 68 = .ok (.iconst 1, 1) := by decide +kernel
theorem dX6_unseen_69 : decode cX6_unseen 69 = .ok (.goto 4, 3) := by decide +kernel
theorem dX6_unseen_72 : decode cX6_unseen 72 = .ok (.iconst 0, 1) := by decide +kernel
theorem dX6_unseen_73 : decode cX6_unseen 73 = .ok (.istore 4, 2) := by decide +kernel
theorem dX6_unseen_75 : decode cX6_unseen 75 = .ok (.iinc 5 1, 3) := by decide +kernel
theorem dX6_unseen_78 : decode cX6_unseen 78 = .ok (.goto (-46), 3) := by decide +kernel
theorem dX6_unseen_81 : decode cX6_unseen 81 = .ok (.iload_n 1, 1) := by decide +kernel
theorem dX6_unseen_82 : decode cX6_unseen 82 = .ok (.iload 4, 2) := by decide +kernel
theorem dX6_unseen_84 : decode cX6_unseen 84 = .ok (.ifCond .eq 9, 3) := by decide +kernel
theorem dX6_unseen_87 : decode cX6_unseen 87 = .ok (.iconst 1, 1) := by decide +kernel
theorem dX6_unseen_88 : decode cX6_unseen 88 = .ok (.iload_n 2, 1) := by decide +kernel
theorem dX6_unseen_89 : decode cX6_unseen 89 = .ok (.ishl, 1) := by decide +kernel
theorem dX6_unseen_90 : decode cX6_unseen 90 = .ok (.goto 4, 3) := by decide +kernel
theorem dX6_unseen_93 : decode cX6_unseen 93 = .ok (.iconst 0, 1) := by decide +kernel
theorem dX6_unseen_94 : decode cX6_unseen 94 = .ok (.ior, 1) := by decide +kernel
theorem dX6_unseen_95 : decode cX6_unseen 95 = .ok (.istore_n 1, 1) := by decide +kernel
theorem dX6_unseen_96 : decode cX6_unseen 96 = .ok (.iinc 2 1, 3) := by decide +kernel
theorem dX6_unseen_99 : decode cX6_unseen 99 = .ok (.goto (-95), 3) := by decide +kernel
theorem dX6_unseen_102 : decode cX6_unseen 102 = .ok (.iload_n 1, 1) := by decide +kernel
theorem dX6_unseen_103 : decode cX6_unseen 103 = .ok (.ireturn, 1) := by decide +kernel
theorem dX6_keep_0 : decode cX6_keep 0 = .ok (.iload_n 1, 1) := by decide +kernel
theorem dX6_keep_1 : decode cX6_keep 1 = .ok (.iconst 0, 1) := by decide +kernel
theorem dX6_keep_2 : decode cX6_keep 2 = .ok (.iconst 1, 1) := by decide +kernel
theorem dX6_keep_3 : decode cX6_keep 3 = .ok (.invokestatic 63, 3) := by decide +kernel
theorem dX6_keep_6 : decode cX6_keep 6 = .ok (.ifCond .ne 5, 3) := by decide +kernel
theorem dX6_keep_9 : decode cX6_keep 9 = .ok (.iconst (-1), 1) := by decide +kernel
theorem dX6_keep_10 : decode cX6_keep 10 = .ok (.ireturn, 1) := by decide +kernel
theorem dX6_keep_11 : decode cX6_keep 11 = .ok (.aload_n 0, 1) := by decide +kernel
theorem dX6_keep_12 : decode cX6_keep 12 = .ok (.bipush 10, 2) := by decide +kernel
theorem dX6_keep_14 : decode cX6_keep 14 = .ok (.iload_n 1, 1) := by decide +kernel
theorem dX6_keep_15 : decode cX6_keep 15 = .ok (.iadd, 1) := by decide +kernel
theorem dX6_keep_16 : decode cX6_keep 16 = .ok (.invokevirtual 59, 3) := by decide +kernel
theorem dX6_keep_19 : decode cX6_keep 19 = .ok (.aload_n 0, 1) := by decide +kernel
theorem dX6_keep_20 : decode cX6_keep 20 = .ok (.getfield 26, 3) := by decide +kernel
theorem dX6_keep_23 : decode cX6_keep 23 = .ok (.iload_n 1, 1) := by decide +kernel
theorem dX6_keep_24 : decode cX6_keep 24 = .ok (.iconst 1, 1) := by decide +kernel
theorem dX6_keep_25 : decode cX6_keep 25 = .ok (.iastore, 1) := by decide +kernel
theorem dX6_keep_26 : decode cX6_keep 26 = .ok (.aload_n 0, 1) := by decide +kernel
theorem dX6_keep_27 : decode cX6_keep 27 = .ok (.getfield 50, 3) := by decide +kernel
theorem dX6_keep_30 : decode cX6_keep 30 = .ok (.ireturn, 1) := by decide +kernel
theorem dX6_back_0 : decode cX6_back 0 = .ok (.iload_n 1, 1) := by decide +kernel
theorem dX6_back_1 : decode cX6_back 1 = .ok (.iconst 0, 1) := by decide +kernel
theorem dX6_back_2 : decode cX6_back 2 = .ok (.iconst 1, 1) := by decide +kernel
theorem dX6_back_3 : decode cX6_back 3 = .ok (.invokestatic 63, 3) := by decide +kernel
theorem dX6_back_6 : decode cX6_back 6 = .ok (.ifCond .ne 5, 3) := by decide +kernel
theorem dX6_back_9 : decode cX6_back 9 = .ok (.iconst (-1), 1) := by decide +kernel
theorem dX6_back_10 : decode cX6_back 10 = .ok (.ireturn, 1) := by decide +kernel
theorem dX6_back_11 : decode cX6_back 11 = .ok (.aload_n 0, 1) := by decide +kernel
theorem dX6_back_12 : decode cX6_back 12 = .ok (.getfield 26, 3) := by decide +kernel
theorem dX6_back_15 : decode cX6_back 15 = .ok (.iload_n 1, 1) := by decide +kernel
theorem dX6_back_16 : decode cX6_back 16 = .ok (.iaload, 1) := by decide +kernel
theorem dX6_back_17 : decode cX6_back 17 = .ok (.ifCond .ne 6, 3) := by decide +kernel
theorem dX6_back_20 : decode cX6_back 20 = .ok (.bipush (-2), 2) := by decide +kernel
theorem dX6_back_22 : decode cX6_back 22 = .ok (.ireturn, 1) := by decide +kernel
theorem dX6_back_23 : decode cX6_back 23 = .ok (.aload_n 0, 1) := by decide +kernel
theorem dX6_back_24 : decode cX6_back 24 = .ok (.bipush 10, 2) := by decide +kernel
theorem dX6_back_26 : decode cX6_back 26 = .ok (.iload_n 1, 1) := by decide +kernel
theorem dX6_back_27 : decode cX6_back 27 = .ok (.iadd, 1) := by decide +kernel
theorem dX6_back_28 : decode cX6_back 28 = .ok (.invokevirtual 118, 3) := by decide +kernel
theorem dX6_back_31 : decode cX6_back 31 = .ok (.aload_n 0, 1) := by decide +kernel
theorem dX6_back_32 : decode cX6_back 32 = .ok (.iconst 0, 1) := by decide +kernel
theorem dX6_back_33 : decode cX6_back 33 = .ok (.putfield 56, 3) := by decide +kernel
theorem dX6_back_36 : decode cX6_back 36 = .ok (.aload_n 0, 1) := by decide +kernel
theorem dX6_back_37 : decode cX6_back 37 = .ok (.getfield 50, 3) := by decide +kernel
theorem dX6_back_40 : decode cX6_back 40 = .ok (.ireturn, 1) := by decide +kernel
theorem dX6_count_0 : decode cX6_count 0 = .ok (.iload_n 1, 1) := by decide +kernel
theorem dX6_count_1 : decode cX6_count 1 = .ok (.tableswitch 106 0 11 #[63, 68, 73, 78, 83, 88, 88, 88, 88, 88, 96, 101], 63) := by decide +kernel
theorem dX6_count_64 : decode cX6_count 64 = .ok (.aload_n 0, 1) := by decide +kernel
theorem dX6_count_65 : decode cX6_count 65 = .ok (.getfield 7, 3) := by decide +kernel
theorem dX6_count_68 : decode cX6_count 68 = .ok (.ireturn, 1) := by decide +kernel
theorem dX6_count_69 : decode cX6_count 69 = .ok (.aload_n 0, 1) := by decide +kernel
theorem dX6_count_70 : decode cX6_count 70 = .ok (.getfield 13, 3) := by decide +kernel
theorem dX6_count_73 : decode cX6_count 73 = .ok (.ireturn, 1) := by decide +kernel
theorem dX6_count_74 : decode cX6_count 74 = .ok (.aload_n 0, 1) := by decide +kernel
theorem dX6_count_75 : decode cX6_count 75 = .ok (.getfield 16, 3) := by decide +kernel
theorem dX6_count_78 : decode cX6_count 78 = .ok (.ireturn, 1) := by decide +kernel
theorem dX6_count_79 : decode cX6_count 79 = .ok (.aload_n 0, 1) := by decide +kernel
theorem dX6_count_80 : decode cX6_count 80 = .ok (.getfield 47, 3) := by decide +kernel
theorem dX6_count_83 : decode cX6_count 83 = .ok (.ireturn, 1) := by decide +kernel
theorem dX6_count_84 : decode cX6_count 84 = .ok (.aload_n 0, 1) := by decide +kernel
theorem dX6_count_85 : decode cX6_count 85 = .ok (.getfield 50, 3) := by decide +kernel
theorem dX6_count_88 : decode cX6_count 88 = .ok (.ireturn, 1) := by decide +kernel
theorem dX6_count_89 : decode cX6_count 89 = .ok (.aload_n 0, 1) := by decide +kernel
theorem dX6_count_90 : decode cX6_count 90 = .ok (.iload_n 1, 1) := by decide +kernel
theorem dX6_count_91 : decode cX6_count 91 = .ok (.iconst 5, 1) := by decide +kernel
theorem dX6_count_92 : decode cX6_count 92 = .ok (.isub, 1) := by decide +kernel
theorem dX6_count_93 : decode cX6_count 93 = .ok (.invokevirtual 99, 3) := by decide +kernel
theorem dX6_count_96 : decode cX6_count 96 = .ok (.ireturn, 1) := by decide +kernel
theorem dX6_count_97 : decode cX6_count 97 = .ok (.aload_n 0, 1) := by decide +kernel
theorem dX6_count_98 : decode cX6_count 98 = .ok (.getfield 121, 3) := by decide +kernel
theorem dX6_count_101 : decode cX6_count 101 = .ok (.ireturn, 1) := by decide +kernel
theorem dX6_count_102 : decode cX6_count 102 = .ok (.aload_n 0, 1) := by decide +kernel
theorem dX6_count_103 : decode cX6_count 103 = .ok (.getfield 56, 3) := by decide +kernel
theorem dX6_count_106 : decode cX6_count 106 = .ok (.ireturn, 1) := by decide +kernel
theorem dX6_count_107 : decode cX6_count 107 = .ok (.iconst (-1), 1) := by decide +kernel
theorem dX6_count_108 : decode cX6_count 108 = .ok (.ireturn, 1) := by decide +kernel
theorem dJ9_max_7cf53_0 : decode cJ9_max_7cf53 0 = .ok (.iload_n 0, 1) := by decide +kernel
theorem dJ9_max_7cf53_1 : decode cJ9_max_7cf53 1 = .ok (.iload_n 1, 1) := by decide +kernel
theorem dJ9_max_7cf53_2 : decode cJ9_max_7cf53 2 = .ok (.if_icmp .lt 7, 3) := by decide +kernel
theorem dJ9_max_7cf53_5 : decode cJ9_max_7cf53 5 = .ok (.iload_n 0, 1) := by decide +kernel
theorem dJ9_max_7cf53_6 : decode cJ9_max_7cf53 6 = .ok (.goto 4, 3) := by decide +kernel
theorem dJ9_max_7cf53_9 : decode cJ9_max_7cf53 9 = .ok (.iload_n 1, 1) := by decide +kernel
theorem dJ9_max_7cf53_10 : decode cJ9_max_7cf53 10 = .ok (.ireturn, 1) := by decide +kernel
theorem dJ9_min_7cf53_0 : decode cJ9_min_7cf53 0 = .ok (.iload_n 0, 1) := by decide +kernel
theorem dJ9_min_7cf53_1 : decode cJ9_min_7cf53 1 = .ok (.iload_n 1, 1) := by decide +kernel
theorem dJ9_min_7cf53_2 : decode cJ9_min_7cf53 2 = .ok (.if_icmp .gt 7, 3) := by decide +kernel
theorem dJ9_min_7cf53_5 : decode cJ9_min_7cf53 5 = .ok (.iload_n 0, 1) := by decide +kernel
theorem dJ9_min_7cf53_6 : decode cJ9_min_7cf53 6 = .ok (.goto 4, 3) := by decide +kernel
theorem dJ9_min_7cf53_9 : decode cJ9_min_7cf53 9 = .ok (.iload_n 1, 1) := by decide +kernel
theorem dJ9_min_7cf53_10 : decode cJ9_min_7cf53 10 = .ok (.ireturn, 1) := by decide +kernel
theorem dL_law_0 : decode cL_law 0 = .ok (.new 7, 3) := by decide +kernel
theorem dL_law_3 : decode cL_law 3 = .ok (.dup, 1) := by decide +kernel
theorem dL_law_4 : decode cL_law 4 = .ok (.invokespecial 9, 3) := by decide +kernel
theorem dL_law_7 : decode cL_law 7 = .ok (.astore_n 1, 1) := by decide +kernel
theorem dL_law_8 : decode cL_law 8 = .ok (.new 10, 3) := by decide +kernel
theorem dL_law_11 : decode cL_law 11 = .ok (.dup, 1) := by decide +kernel
theorem dL_law_12 : decode cL_law 12 = .ok (.invokespecial 12, 3) := by decide +kernel
theorem dL_law_15 : decode cL_law 15 = .ok (.astore_n 2, 1) := by decide +kernel
theorem dL_law_16 : decode cL_law 16 = .ok (.iconst 0, 1) := by decide +kernel
theorem dL_law_17 : decode cL_law 17 = .ok (.istore_n 3, 1) := by decide +kernel
theorem dL_law_18 : decode cL_law 18 = .ok (.iload_n 3, 1) := by decide +kernel
theorem dL_law_19 : decode cL_law 19 = .ok (.aload_n 0, 1) := by decide +kernel
theorem dL_law_20 : decode cL_law 20 = .ok (.arraylength, 1) := by decide +kernel
theorem dL_law_21 : decode cL_law 21 = .ok (.iconst 4, 1) := by decide +kernel
theorem dL_law_22 : decode cL_law 22 = .ok (.isub, 1) := by decide +kernel
theorem dL_law_23 : decode cL_law 23 = .ok (.if_icmp .gt 629, 3) := by decide +kernel
theorem dL_law_26 : decode cL_law 26 = .ok (.aload_n 0, 1) := by decide +kernel
theorem dL_law_27 : decode cL_law 27 = .ok (.iload_n 3, 1) := by decide +kernel
theorem dL_law_28 : decode cL_law 28 = .ok (.iaload, 1) := by decide +kernel
theorem dL_law_29 : decode cL_law 29 = .ok (.bipush 31, 2) := by decide +kernel
theorem dL_law_31 : decode cL_law 31 = .ok (.iand, 1) := by decide +kernel
theorem dL_law_32 : decode cL_law 32 = .ok (.tableswitch 614 0 20 #[100, 143, 186, 199, 212, 225, 258, 281, 314, 337, 360, 383, 396, 419, 442, 486, 519, 532, 545, 568, 591], 100) := by decide +kernel
theorem dL_law_132 : decode cL_law 132 = .ok (.aload_n 1, 1) := by decide +kernel
theorem dL_law_133 : decode cL_law 133 = .ok (.aload_n 0, 1) := by decide +kernel
theorem dL_law_134 : decode cL_law 134 = .ok (.iload_n 3, 1) := by decide +kernel
theorem dL_law_135 : decode cL_law 135 = .ok (.iconst 1, 1) := by decide +kernel
theorem dL_law_136 : decode cL_law 136 = .ok (.iadd, 1) := by decide +kernel
theorem dL_law_137 : decode cL_law 137 = .ok (.iaload, 1) := by decide +kernel
theorem dL_law_138 : decode cL_law 138 = .ok (.aload_n 0, 1) := by decide +kernel
theorem dL_law_139 : decode cL_law 139 = .ok (.iload_n 3, 1) := by decide +kernel
theorem dL_law_140 : decode cL_law 140 = .ok (.iconst 2, 1) := by decide +kernel
theorem dL_law_141 : decode cL_law 141 = .ok (.iadd, 1) := by decide +kernel
theorem dL_law_142 : decode cL_law 142 = .ok (.iaload, 1) := by decide +kernel
theorem dL_law_143 : decode cL_law 143 = .ok (.aload_n 0, 1) := by decide +kernel
theorem dL_law_144 : decode cL_law 144 = .ok (.iload_n 3, 1) := by decide +kernel
theorem dL_law_145 : decode cL_law 145 = .ok (.iconst 3, 1) := by decide +kernel
theorem dL_law_146 : decode cL_law 146 = .ok (.iadd, 1) := by decide +kernel
theorem dL_law_147 : decode cL_law 147 = .ok (.iaload, 1) := by decide +kernel
theorem dL_law_148 : decode cL_law 148 = .ok (.invokevirtual 13, 3) := by decide +kernel
theorem dL_law_151 : decode cL_law 151 = .ok (.aload_n 2, 1) := by decide +kernel
theorem dL_law_152 : decode cL_law 152 = .ok (.aload_n 0, 1) := by decide +kernel
theorem dL_law_153 : decode cL_law 153 = .ok (.iload_n 3, 1) := by decide +kernel
theorem dL_law_154 : decode cL_law 154 = .ok (.iconst 1, 1) := by decide +kernel
theorem dL_law_155 : decode cL_law 155 = .ok (.iadd, 1) := by decide +kernel
theorem dL_law_156 : decode cL_law 156 = .ok (.iaload, 1) := by decide +kernel
theorem dL_law_157 : decode cL_law 157 = .ok (.aload_n 0, 1) := by decide +kernel
theorem dL_law_158 : decode cL_law 158 = .ok (.iload_n 3, 1) := by decide +kernel
theorem dL_law_159 : decode cL_law 159 = .ok (.iconst 2, 1) := by decide +kernel
theorem dL_law_160 : decode cL_law 160 = .ok (.iadd, 1) := by decide +kernel
theorem dL_law_161 : decode cL_law 161 = .ok (.iaload, 1) := by decide +kernel
theorem dL_law_162 : decode cL_law 162 = .ok (.aload_n 0, 1) := by decide +kernel
theorem dL_law_163 : decode cL_law 163 = .ok (.iload_n 3, 1) := by decide +kernel
theorem dL_law_164 : decode cL_law 164 = .ok (.iconst 3, 1) := by decide +kernel
theorem dL_law_165 : decode cL_law 165 = .ok (.iadd, 1) := by decide +kernel
theorem dL_law_166 : decode cL_law 166 = .ok (.iaload, 1) := by decide +kernel
theorem dL_law_167 : decode cL_law 167 = .ok (.invokevirtual 17, 3) := by decide +kernel
theorem dL_law_170 : decode cL_law 170 = .ok (.if_icmp .eq 476, 3) := by decide +kernel
theorem dL_law_173 : decode cL_law 173 = .ok (.iconst 0, 1) := by decide +kernel
theorem dL_law_174 : decode cL_law 174 = .ok (.ireturn, 1) := by decide +kernel
theorem dL_law_175 : decode cL_law 175 = .ok (.aload_n 1, 1) := by decide +kernel
theorem dL_law_176 : decode cL_law 176 = .ok (.aload_n 0, 1) := by decide +kernel
theorem dL_law_177 : decode cL_law 177 = .ok (.iload_n 3, 1) := by decide +kernel
theorem dL_law_178 : decode cL_law 178 = .ok (.iconst 1, 1) := by decide +kernel
theorem dL_law_179 : decode cL_law 179 = .ok (.iadd, 1) := by decide +kernel
theorem dL_law_180 : decode cL_law 180 = .ok (.iaload, 1) := by decide +kernel
theorem dL_law_181 : decode cL_law 181 = .ok (.aload_n 0, 1) := by decide +kernel
theorem dL_law_182 : decode cL_law 182 = .ok (.iload_n 3, 1) := by decide +kernel
theorem dL_law_183 : decode cL_law 183 = .ok (.iconst 2, 1) := by decide +kernel
theorem dL_law_184 : decode cL_law 184 = .ok (.iadd, 1) := by decide +kernel
theorem dL_law_185 : decode cL_law 185 = .ok (.iaload, 1) := by decide +kernel
theorem dL_law_186 : decode cL_law 186 = .ok (.aload_n 0, 1) := by decide +kernel
theorem dL_law_187 : decode cL_law 187 = .ok (.iload_n 3, 1) := by decide +kernel
theorem dL_law_188 : decode cL_law 188 = .ok (.iconst 3, 1) := by decide +kernel
theorem dL_law_189 : decode cL_law 189 = .ok (.iadd, 1) := by decide +kernel
theorem dL_law_190 : decode cL_law 190 = .ok (.iaload, 1) := by decide +kernel
theorem dL_law_191 : decode cL_law 191 = .ok (.invokevirtual 18, 3) := by decide +kernel
theorem dL_law_194 : decode cL_law 194 = .ok (.aload_n 2, 1) := by decide +kernel
theorem dL_law_195 : decode cL_law 195 = .ok (.aload_n 0, 1) := by decide +kernel
theorem dL_law_196 : decode cL_law 196 = .ok (.iload_n 3, 1) := by decide +kernel
theorem dL_law_197 : decode cL_law 197 = .ok (.iconst 1, 1) := by decide +kernel
theorem dL_law_198 : decode cL_law 198 = .ok (.iadd, 1) := by decide +kernel
theorem dL_law_199 : decode cL_law 199 = .ok (.iaload, 1) := by decide +kernel
theorem dL_law_200 : decode cL_law 200 = .ok (.aload_n 0, 1) := by decide +kernel
theorem dL_law_201 : decode cL_law 201 = .ok (.iload_n 3, 1) := by decide +kernel
theorem dL_law_202 : decode cL_law 202 = .ok (.iconst 2, 1) := by decide +kernel
theorem dL_law_203 : decode cL_law 203 = .ok (.iadd, 1) := by decide +kernel
theorem dL_law_204 : decode cL_law 204 = .ok (.iaload, 1) := by decide +kernel
theorem dL_law_205 : decode cL_law 205 = .ok (.aload_n 0, 1) := by decide +kernel
theorem dL_law_206 : decode cL_law 206 = .ok (.iload_n 3, 1) := by decide +kernel
theorem dL_law_207 : decode cL_law 207 = .ok (.iconst 3, 1) := by decide +kernel
theorem dL_law_208 : decode cL_law 208 = .ok (.iadd, 1) := by decide +kernel
theorem dL_law_209 : decode cL_law 209 = .ok (.iaload, 1) := by decide +kernel
theorem dL_law_210 : decode cL_law 210 = .ok (.invokevirtual 21, 3) := by decide +kernel
theorem dL_law_213 : decode cL_law 213 = .ok (.if_icmp .eq 433, 3) := by decide +kernel
theorem dL_law_216 : decode cL_law 216 = .ok (.iconst 0, 1) := by decide +kernel
theorem dL_law_217 : decode cL_law 217 = .ok (.ireturn, 1) := by decide +kernel
theorem dL_law_218 : decode cL_law 218 = .ok (.aload_n 1, 1) := by decide +kernel
theorem dL_law_219 : decode cL_law 219 = .ok (.invokevirtual 22, 3) := by decide +kernel
theorem dL_law_222 : decode cL_law 222 = .ok (.aload_n 2, 1) := by decide +kernel
theorem dL_law_223 : decode cL_law 223 = .ok (.invokevirtual 26, 3) := by decide +kernel
theorem dL_law_226 : decode cL_law 226 = .ok (.if_icmp .eq 420, 3) := by decide +kernel
theorem dL_law_229 : decode cL_law 229 = .ok (.iconst 0, 1) := by decide +kernel
theorem dL_law_230 : decode cL_law 230 = .ok (.ireturn, 1) := by decide +kernel
theorem dL_law_231 : decode cL_law 231 = .ok (.aload_n 1, 1) := by decide +kernel
theorem dL_law_232 : decode cL_law 232 = .ok (.invokevirtual 27, 3) := by decide +kernel
theorem dL_law_235 : decode cL_law 235 = .ok (.aload_n 2, 1) := by decide +kernel
theorem dL_law_236 : decode cL_law 236 = .ok (.invokevirtual 30, 3) := by decide +kernel
theorem dL_law_239 : decode cL_law 239 = .ok (.if_icmp .eq 407, 3) := by decide +kernel
theorem dL_law_242 : decode cL_law 242 = .ok (.iconst 0, 1) := by decide +kernel
theorem dL_law_243 : decode cL_law 243 = .ok (.ireturn, 1) := by decide +kernel
theorem dL_law_244 : decode cL_law 244 = .ok (.aload_n 1, 1) := by decide +kernel
theorem dL_law_245 : decode cL_law 245 = .ok (.invokevirtual 31, 3) := by decide +kernel
theorem dL_law_248 : decode cL_law 248 = .ok (.aload_n 2, 1) := by decide +kernel
theorem dL_law_249 : decode cL_law 249 = .ok (.invokevirtual 34, 3) := by decide +kernel
theorem dL_law_252 : decode cL_law 252 = .ok (.if_icmp .eq 394, 3) := by decide +kernel
theorem dL_law_255 : decode cL_law 255 = .ok (.iconst 0, 1) := by decide +kernel
theorem dL_law_256 : decode cL_law 256 = .ok (.ireturn, 1) := by decide +kernel
theorem dL_law_257 : decode cL_law 257 = .ok (.aload_n 1, 1) := by decide +kernel
theorem dL_law_258 : decode cL_law 258 = .ok (.aload_n 0, 1) := by decide +kernel
theorem dL_law_259 : decode cL_law 259 = .ok (.iload_n 3, 1) := by decide +kernel
theorem dL_law_260 : decode cL_law 260 = .ok (.iconst 1, 1) := by decide +kernel
theorem dL_law_261 : decode cL_law 261 = .ok (.iadd, 1) := by decide +kernel
theorem dL_law_262 : decode cL_law 262 = .ok (.iaload, 1) := by decide +kernel
theorem dL_law_263 : decode cL_law 263 = .ok (.aload_n 0, 1) := by decide +kernel
theorem dL_law_264 : decode cL_law 264 = .ok (.iload_n 3, 1) := by decide +kernel
theorem dL_law_265 : decode cL_law 265 = .ok (.iconst 2, 1) := by decide +kernel
theorem dL_law_266 : decode cL_law 266 = .ok (.iadd, 1) := by decide +kernel
theorem dL_law_267 : decode cL_law 267 = .ok (.iaload, 1) := by decide +kernel
theorem dL_law_268 : decode cL_law 268 = .ok (.invokevirtual 35, 3) := by decide +kernel
theorem dL_law_271 : decode cL_law 271 = .ok (.aload_n 2, 1) := by decide +kernel
theorem dL_law_272 : decode cL_law 272 = .ok (.aload_n 0, 1) := by decide +kernel
theorem dL_law_273 : decode cL_law 273 = .ok (.iload_n 3, 1) := by decide +kernel
theorem dL_law_274 : decode cL_law 274 = .ok (.iconst 1, 1) := by decide +kernel
theorem dL_law_275 : decode cL_law 275 = .ok (.iadd, 1) := by decide +kernel
theorem dL_law_276 : decode cL_law 276 = .ok (.iaload, 1) := by decide +kernel
theorem dL_law_277 : decode cL_law 277 = .ok (.aload_n 0, 1) := by decide +kernel
theorem dL_law_278 : decode cL_law 278 = .ok (.iload_n 3, 1) := by decide +kernel
theorem dL_law_279 : decode cL_law 279 = .ok (.iconst 2, 1) := by decide +kernel
theorem dL_law_280 : decode cL_law 280 = .ok (.iadd, 1) := by decide +kernel
theorem dL_law_281 : decode cL_law 281 = .ok (.iaload, 1) := by decide +kernel
theorem dL_law_282 : decode cL_law 282 = .ok (.invokevirtual 39, 3) := by decide +kernel
theorem dL_law_285 : decode cL_law 285 = .ok (.if_icmp .eq 361, 3) := by decide +kernel
theorem dL_law_288 : decode cL_law 288 = .ok (.iconst 0, 1) := by decide +kernel
theorem dL_law_289 : decode cL_law 289 = .ok (.ireturn, 1) := by decide +kernel
theorem dL_law_290 : decode cL_law 290 = .ok (.aload_n 1, 1) := by decide +kernel
theorem dL_law_291 : decode cL_law 291 = .ok (.aload_n 0, 1) := by decide +kernel
theorem dL_law_292 : decode cL_law 292 = .ok (.iload_n 3, 1) := by decide +kernel
theorem dL_law_293 : decode cL_law 293 = .ok (.iconst 1, 1) := by decide +kernel
theorem dL_law_294 : decode cL_law 294 = .ok (.iadd, 1) := by decide +kernel
theorem dL_law_295 : decode cL_law 295 = .ok (.iaload, 1) := by decide +kernel
theorem dL_law_296 : decode cL_law 296 = .ok (.invokevirtual 40, 3) := by decide +kernel
theorem dL_law_299 : decode cL_law 299 = .ok (.aload_n 2, 1) := by decide +kernel
theorem dL_law_300 : decode cL_law 300 = .ok (.aload_n 0, 1) := by decide +kernel
theorem dL_law_301 : decode cL_law 301 = .ok (.iload_n 3, 1) := by decide +kernel
theorem dL_law_302 : decode cL_law 302 = .ok (.iconst 1, 1) := by decide +kernel
theorem dL_law_303 : decode cL_law 303 = .ok (.iadd, 1) := by decide +kernel
theorem dL_law_304 : decode cL_law 304 = .ok (.iaload, 1) := by decide +kernel
theorem dL_law_305 : decode cL_law 305 = .ok (.invokevirtual 44, 3) := by decide +kernel
theorem dL_law_308 : decode cL_law 308 = .ok (.if_icmp .eq 338, 3) := by decide +kernel
theorem dL_law_311 : decode cL_law 311 = .ok (.iconst 0, 1) := by decide +kernel
theorem dL_law_312 : decode cL_law 312 = .ok (.ireturn, 1) := by decide +kernel
theorem dL_law_313 : decode cL_law 313 = .ok (.aload_n 1, 1) := by decide +kernel
theorem dL_law_314 : decode cL_law 314 = .ok (.aload_n 0, 1) := by decide +kernel
theorem dL_law_315 : decode cL_law 315 = .ok (.iload_n 3, 1) := by decide +kernel
theorem dL_law_316 : decode cL_law 316 = .ok (.iconst 1, 1) := by decide +kernel
theorem dL_law_317 : decode cL_law 317 = .ok (.iadd, 1) := by decide +kernel
theorem dL_law_318 : decode cL_law 318 = .ok (.iaload, 1) := by decide +kernel
theorem dL_law_319 : decode cL_law 319 = .ok (.aload_n 0, 1) := by decide +kernel
theorem dL_law_320 : decode cL_law 320 = .ok (.iload_n 3, 1) := by decide +kernel
theorem dL_law_321 : decode cL_law 321 = .ok (.iconst 2, 1) := by decide +kernel
theorem dL_law_322 : decode cL_law 322 = .ok (.iadd, 1) := by decide +kernel
theorem dL_law_323 : decode cL_law 323 = .ok (.iaload, 1) := by decide +kernel
theorem dL_law_324 : decode cL_law 324 = .ok (.invokevirtual 45, 3) := by decide +kernel
theorem dL_law_327 : decode cL_law 327 = .ok (.aload_n 2, 1) := by decide +kernel
theorem dL_law_328 : decode cL_law 328 = .ok (.aload_n 0, 1) := by decide +kernel
theorem dL_law_329 : decode cL_law 329 = .ok (.iload_n 3, 1) := by decide +kernel
theorem dL_law_330 : decode cL_law 330 = .ok (.iconst 1, 1) := by decide +kernel
theorem dL_law_331 : decode cL_law 331 = .ok (.iadd, 1) := by decide +kernel
theorem dL_law_332 : decode cL_law 332 = .ok (.iaload, 1) := by decide +kernel
theorem dL_law_333 : decode cL_law 333 = .ok (.aload_n 0, 1) := by decide +kernel
theorem dL_law_334 : decode cL_law 334 = .ok (.iload_n 3, 1) := by decide +kernel
theorem dL_law_335 : decode cL_law 335 = .ok (.iconst 2, 1) := by decide +kernel
theorem dL_law_336 : decode cL_law 336 = .ok (.iadd, 1) := by decide +kernel
theorem dL_law_337 : decode cL_law 337 = .ok (.iaload, 1) := by decide +kernel
theorem dL_law_338 : decode cL_law 338 = .ok (.invokevirtual 48, 3) := by decide +kernel
theorem dL_law_341 : decode cL_law 341 = .ok (.if_icmp .eq 305, 3) := by decide +kernel
theorem dL_law_344 : decode cL_law 344 = .ok (.iconst 0, 1) := by decide +kernel
theorem dL_law_345 : decode cL_law 345 = .ok (.ireturn, 1) := by decide +kernel
theorem dL_law_346 : decode cL_law 346 = .ok (.aload_n 1, 1) := by decide +kernel
theorem dL_law_347 : decode cL_law 347 = .ok (.aload_n 0, 1) := by decide +kernel
theorem dL_law_348 : decode cL_law 348 = .ok (.iload_n 3, 1) := by decide +kernel
theorem dL_law_349 : decode cL_law 349 = .ok (.iconst 1, 1) := by decide +kernel
theorem dL_law_350 : decode cL_law 350 = .ok (.iadd, 1) := by decide +kernel
theorem dL_law_351 : decode cL_law 351 = .ok (.iaload, 1) := by decide +kernel
theorem dL_law_352 : decode cL_law 352 = .ok (.invokevirtual 49, 3) := by decide +kernel
theorem dL_law_355 : decode cL_law 355 = .ok (.aload_n 2, 1) := by decide +kernel
theorem dL_law_356 : decode cL_law 356 = .ok (.aload_n 0, 1) := by decide +kernel
theorem dL_law_357 : decode cL_law 357 = .ok (.iload_n 3, 1) := by decide +kernel
theorem dL_law_358 : decode cL_law 358 = .ok (.iconst 1, 1) := by decide +kernel
theorem dL_law_359 : decode cL_law 359 = .ok (.iadd, 1) := by decide +kernel
theorem dL_law_360 : decode cL_law 360 = .ok (.iaload, 1) := by decide +kernel
theorem dL_law_361 : decode cL_law 361 = .ok (.invokevirtual 52, 3) := by decide +kernel
theorem dL_law_364 : decode cL_law 364 = .ok (.if_icmp .eq 282, 3) := by decide +kernel
theorem dL_law_367 : decode cL_law 367 = .ok (.iconst 0, 1) := by decide +kernel
theorem dL_law_368 : decode cL_law 368 = .ok (.ireturn, 1) := by decide +kernel
theorem dL_law_369 : decode cL_law 369 = .ok (.aload_n 1, 1) := by decide +kernel
theorem dL_law_370 : decode cL_law 370 = .ok (.aload_n 0, 1) := by decide +kernel
theorem dL_law_371 : decode cL_law 371 = .ok (.iload_n 3, 1) := by decide +kernel
theorem dL_law_372 : decode cL_law 372 = .ok (.iconst 1, 1) := by decide +kernel
theorem dL_law_373 : decode cL_law 373 = .ok (.iadd, 1) := by decide +kernel
theorem dL_law_374 : decode cL_law 374 = .ok (.iaload, 1) := by decide +kernel
theorem dL_law_375 : decode cL_law 375 = .ok (.invokevirtual 53, 3) := by decide +kernel
theorem dL_law_378 : decode cL_law 378 = .ok (.aload_n 2, 1) := by decide +kernel
theorem dL_law_379 : decode cL_law 379 = .ok (.aload_n 0, 1) := by decide +kernel
theorem dL_law_380 : decode cL_law 380 = .ok (.iload_n 3, 1) := by decide +kernel
theorem dL_law_381 : decode cL_law 381 = .ok (.iconst 1, 1) := by decide +kernel
theorem dL_law_382 : decode cL_law 382 = .ok (.iadd, 1) := by decide +kernel
theorem dL_law_383 : decode cL_law 383 = .ok (.iaload, 1) := by decide +kernel
theorem dL_law_384 : decode cL_law 384 = .ok (.invokevirtual 56, 3) := by decide +kernel
theorem dL_law_387 : decode cL_law 387 = .ok (.if_icmp .eq 259, 3) := by decide +kernel
theorem dL_law_390 : decode cL_law 390 = .ok (.iconst 0, 1) := by decide +kernel
theorem dL_law_391 : decode cL_law 391 = .ok (.ireturn, 1) := by decide +kernel
theorem dL_law_392 : decode cL_law 392 = .ok (.aload_n 1, 1) := by decide +kernel
theorem dL_law_393 : decode cL_law 393 = .ok (.aload_n 0, 1) := by decide +kernel
theorem dL_law_394 : decode cL_law 394 = .ok (.iload_n 3, 1) := by decide +kernel
theorem dL_law_395 : decode cL_law 395 = .ok (.iconst 1, 1) := by decide +kernel
theorem dL_law_396 : decode cL_law 396 = .ok (.iadd, 1) := by decide +kernel
theorem dL_law_397 : decode cL_law 397 = .ok (.iaload, 1) := by decide +kernel
theorem dL_law_398 : decode cL_law 398 = .ok (.invokevirtual 57, 3) := by decide +kernel
theorem dL_law_401 : decode cL_law 401 = .ok (.aload_n 2, 1) := by decide +kernel
theorem dL_law_402 : decode cL_law 402 = .ok (.aload_n 0, 1) := by decide +kernel
theorem dL_law_403 : decode cL_law 403 = .ok (.iload_n 3, 1) := by decide +kernel
theorem dL_law_404 : decode cL_law 404 = .ok (.iconst 1, 1) := by decide +kernel
theorem dL_law_405 : decode cL_law 405 = .ok (.iadd, 1) := by decide +kernel
theorem dL_law_406 : decode cL_law 406 = .ok (.iaload, 1) := by decide +kernel
theorem dL_law_407 : decode cL_law 407 = .ok (.invokevirtual 60, 3) := by decide +kernel
theorem dL_law_410 : decode cL_law 410 = .ok (.if_icmp .eq 236, 3) := by decide +kernel
theorem dL_law_413 : decode cL_law 413 = .ok (.iconst 0, 1) := by decide +kernel
theorem dL_law_414 : decode cL_law 414 = .ok (.ireturn, 1) := by decide +kernel
theorem dL_law_415 : decode cL_law 415 = .ok (.aload_n 1, 1) := by decide +kernel
theorem dL_law_416 : decode cL_law 416 = .ok (.invokevirtual 61, 3) := by decide +kernel
theorem dL_law_419 : decode cL_law 419 = .ok (.aload_n 2, 1) := by decide +kernel
theorem dL_law_420 : decode cL_law 420 = .ok (.invokevirtual 64, 3) := by decide +kernel
theorem dL_law_423 : decode cL_law 423 = .ok (.if_icmp .eq 223, 3) := by decide +kernel
theorem dL_law_426 : decode cL_law 426 = .ok (.iconst 0, 1) := by decide +kernel
theorem dL_law_427 : decode cL_law 427 = .ok (.ireturn, 1) := by decide +kernel
theorem dL_law_428 : decode cL_law 428 = .ok (.aload_n 1, 1) := by decide +kernel
theorem dL_law_429 : decode cL_law 429 = .ok (.aload_n 0, 1) := by decide +kernel
theorem dL_law_430 : decode cL_law 430 = .ok (.iload_n 3, 1) := by decide +kernel
theorem dL_law_431 : decode cL_law 431 = .ok (.iconst 1, 1) := by decide +kernel
theorem dL_law_432 : decode cL_law 432 = .ok (.iadd, 1) := by decide +kernel
theorem dL_law_433 : decode cL_law 433 = .ok (.iaload, 1) := by decide +kernel
theorem dL_law_434 : decode cL_law 434 = .ok (.invokevirtual 65, 3) := by decide +kernel
theorem dL_law_437 : decode cL_law 437 = .ok (.aload_n 2, 1) := by decide +kernel
theorem dL_law_438 : decode cL_law 438 = .ok (.aload_n 0, 1) := by decide +kernel
theorem dL_law_439 : decode cL_law 439 = .ok (.iload_n 3, 1) := by decide +kernel
theorem dL_law_440 : decode cL_law 440 = .ok (.iconst 1, 1) := by decide +kernel
theorem dL_law_441 : decode cL_law 441 = .ok (.iadd, 1) := by decide +kernel
theorem dL_law_442 : decode cL_law 442 = .ok (.iaload, 1) := by decide +kernel
theorem dL_law_443 : decode cL_law 443 = .ok (.invokevirtual 68, 3) := by decide +kernel
theorem dL_law_446 : decode cL_law 446 = .ok (.if_icmp .eq 200, 3) := by decide +kernel
theorem dL_law_449 : decode cL_law 449 = .ok (.iconst 0, 1) := by decide +kernel
theorem dL_law_450 : decode cL_law 450 = .ok (.ireturn, 1) := by decide +kernel
theorem dL_law_451 : decode cL_law 451 = .ok (.aload_n 1, 1) := by decide +kernel
theorem dL_law_452 : decode cL_law 452 = .ok (.aload_n 0, 1) := by decide +kernel
theorem dL_law_453 : decode cL_law 453 = .ok (.iload_n 3, 1) := by decide +kernel
theorem dL_law_454 : decode cL_law 454 = .ok (.iconst 1, 1) := by decide +kernel
theorem dL_law_455 : decode cL_law 455 = .ok (.iadd, 1) := by decide +kernel
theorem dL_law_456 : decode cL_law 456 = .ok (.iaload, 1) := by decide +kernel
theorem dL_law_457 : decode cL_law 457 = .ok (.invokevirtual 69, 3) := by decide +kernel
theorem dL_law_460 : decode cL_law 460 = .ok (.aload_n 2, 1) := by decide +kernel
theorem dL_law_461 : decode cL_law 461 = .ok (.aload_n 0, 1) := by decide +kernel
theorem dL_law_462 : decode cL_law 462 = .ok (.iload_n 3, 1) := by decide +kernel
theorem dL_law_463 : decode cL_law 463 = .ok (.iconst 1, 1) := by decide +kernel
theorem dL_law_464 : decode cL_law 464 = .ok (.iadd, 1) := by decide +kernel
theorem dL_law_465 : decode cL_law 465 = .ok (.iaload, 1) := by decide +kernel
theorem dL_law_466 : decode cL_law 466 = .ok (.invokevirtual 72, 3) := by decide +kernel
theorem dL_law_469 : decode cL_law 469 = .ok (.if_icmp .eq 177, 3) := by decide +kernel
theorem dL_law_472 : decode cL_law 472 = .ok (.iconst 0, 1) := by decide +kernel
theorem dL_law_473 : decode cL_law 473 = .ok (.ireturn, 1) := by decide +kernel
theorem dL_law_474 : decode cL_law 474 = .ok (.aload_n 1, 1) := by decide +kernel
theorem dL_law_475 : decode cL_law 475 = .ok (.aload_n 0, 1) := by decide +kernel
theorem dL_law_476 : decode cL_law 476 = .ok (.iload_n 3, 1) := by decide +kernel
theorem dL_law_477 : decode cL_law 477 = .ok (.iconst 1, 1) := by decide +kernel
theorem dL_law_478 : decode cL_law 478 = .ok (.iadd, 1) := by decide +kernel
theorem dL_law_479 : decode cL_law 479 = .ok (.iaload, 1) := by decide +kernel
theorem dL_law_480 : decode cL_law 480 = .ok (.aload_n 0, 1) := by decide +kernel
theorem dL_law_481 : decode cL_law 481 = .ok (.iload_n 3, 1) := by decide +kernel
theorem dL_law_482 : decode cL_law 482 = .ok (.iconst 2, 1) := by decide +kernel
theorem dL_law_483 : decode cL_law 483 = .ok (.iadd, 1) := by decide +kernel
theorem dL_law_484 : decode cL_law 484 = .ok (.iaload, 1) := by decide +kernel
theorem dL_law_485 : decode cL_law 485 = .ok (.aload_n 0, 1) := by decide +kernel
theorem dL_law_486 : decode cL_law 486 = .ok (.iload_n 3, 1) := by decide +kernel
theorem dL_law_487 : decode cL_law 487 = .ok (.iconst 3, 1) := by decide +kernel
theorem dL_law_488 : decode cL_law 488 = .ok (.iadd, 1) := by decide +kernel
theorem dL_law_489 : decode cL_law 489 = .ok (.iaload, 1) := by decide +kernel
theorem dL_law_490 : decode cL_law 490 = .ok (.invokevirtual 73, 3) := by decide +kernel
theorem dL_law_493 : decode cL_law 493 = .ok (.aload_n 2, 1) := by decide +kernel
theorem dL_law_494 : decode cL_law 494 = .ok (.aload_n 0, 1) := by decide +kernel
theorem dL_law_495 : decode cL_law 495 = .ok (.iload_n 3, 1) := by decide +kernel
theorem dL_law_496 : decode cL_law 496 = .ok (.iconst 1, 1) := by decide +kernel
theorem dL_law_497 : decode cL_law 497 = .ok (.iadd, 1) := by decide +kernel
theorem dL_law_498 : decode cL_law 498 = .ok (.iaload, 1) := by decide +kernel
theorem dL_law_499 : decode cL_law 499 = .ok (.aload_n 0, 1) := by decide +kernel
theorem dL_law_500 : decode cL_law 500 = .ok (.iload_n 3, 1) := by decide +kernel
theorem dL_law_501 : decode cL_law 501 = .ok (.iconst 2, 1) := by decide +kernel
theorem dL_law_502 : decode cL_law 502 = .ok (.iadd, 1) := by decide +kernel
theorem dL_law_503 : decode cL_law 503 = .ok (.iaload, 1) := by decide +kernel
theorem dL_law_504 : decode cL_law 504 = .ok (.aload_n 0, 1) := by decide +kernel
theorem dL_law_505 : decode cL_law 505 = .ok (.iload_n 3, 1) := by decide +kernel
theorem dL_law_506 : decode cL_law 506 = .ok (.iconst 3, 1) := by decide +kernel
theorem dL_law_507 : decode cL_law 507 = .ok (.iadd, 1) := by decide +kernel
theorem dL_law_508 : decode cL_law 508 = .ok (.iaload, 1) := by decide +kernel
theorem dL_law_509 : decode cL_law 509 = .ok (.invokevirtual 77, 3) := by decide +kernel
theorem dL_law_512 : decode cL_law 512 = .ok (.lcmp, 1) := by decide +kernel
theorem dL_law_513 : decode cL_law 513 = .ok (.ifCond .eq 133, 3) := by decide +kernel
theorem dL_law_516 : decode cL_law 516 = .ok (.iconst 0, 1) := by decide +kernel
theorem dL_law_517 : decode cL_law 517 = .ok (.ireturn, 1) := by decide +kernel
theorem dL_law_518 : decode cL_law 518 = .ok (.aload_n 1, 1) := by decide +kernel
theorem dL_law_519 : decode cL_law 519 = .ok (.aload_n 0, 1) := by decide +kernel
theorem dL_law_520 : decode cL_law 520 = .ok (.iload_n 3, 1) := by decide +kernel
theorem dL_law_521 : decode cL_law 521 = .ok (.iconst 1, 1) := by decide +kernel
theorem dL_law_522 : decode cL_law 522 = .ok (.iadd, 1) := by decide +kernel
theorem dL_law_523 : decode cL_law 523 = .ok (.iaload, 1) := by decide +kernel
theorem dL_law_524 : decode cL_law 524 = .ok (.aload_n 0, 1) := by decide +kernel
theorem dL_law_525 : decode cL_law 525 = .ok (.iload_n 3, 1) := by decide +kernel
theorem dL_law_526 : decode cL_law 526 = .ok (.iconst 2, 1) := by decide +kernel
theorem dL_law_527 : decode cL_law 527 = .ok (.iadd, 1) := by decide +kernel
theorem dL_law_528 : decode cL_law 528 = .ok (.iaload, 1) := by decide +kernel
theorem dL_law_529 : decode cL_law 529 = .ok (.invokevirtual 78, 3) := by decide +kernel
theorem dL_law_532 : decode cL_law 532 = .ok (.aload_n 2, 1) := by decide +kernel
theorem dL_law_533 : decode cL_law 533 = .ok (.aload_n 0, 1) := by decide +kernel
theorem dL_law_534 : decode cL_law 534 = .ok (.iload_n 3, 1) := by decide +kernel
theorem dL_law_535 : decode cL_law 535 = .ok (.iconst 1, 1) := by decide +kernel
theorem dL_law_536 : decode cL_law 536 = .ok (.iadd, 1) := by decide +kernel
theorem dL_law_537 : decode cL_law 537 = .ok (.iaload, 1) := by decide +kernel
theorem dL_law_538 : decode cL_law 538 = .ok (.aload_n 0, 1) := by decide +kernel
theorem dL_law_539 : decode cL_law 539 = .ok (.iload_n 3, 1) := by decide +kernel
theorem dL_law_540 : decode cL_law 540 = .ok (.iconst 2, 1) := by decide +kernel
theorem dL_law_541 : decode cL_law 541 = .ok (.iadd, 1) := by decide +kernel
theorem dL_law_542 : decode cL_law 542 = .ok (.iaload, 1) := by decide +kernel
theorem dL_law_543 : decode cL_law 543 = .ok (.invokevirtual 81, 3) := by decide +kernel
theorem dL_law_546 : decode cL_law 546 = .ok (.if_icmp .eq 100, 3) := by decide +kernel
theorem dL_law_549 : decode cL_law 549 = .ok (.iconst 0, 1) := by decide +kernel
theorem dL_law_550 : decode cL_law 550 = .ok (.ireturn, 1) := by decide +kernel
theorem dL_law_551 : decode cL_law 551 = .ok (.aload_n 1, 1) := by decide +kernel
theorem dL_law_552 : decode cL_law 552 = .ok (.invokevirtual 82, 3) := by decide +kernel
theorem dL_law_555 : decode cL_law 555 = .ok (.aload_n 2, 1) := by decide +kernel
theorem dL_law_556 : decode cL_law 556 = .ok (.invokevirtual 85, 3) := by decide +kernel
theorem dL_law_559 : decode cL_law 559 = .ok (.if_icmp .eq 87, 3) := by decide +kernel
theorem dL_law_562 : decode cL_law 562 = .ok (.iconst 0, 1) := by decide +kernel
theorem dL_law_563 : decode cL_law 563 = .ok (.ireturn, 1) := by decide +kernel
theorem dL_law_564 : decode cL_law 564 = .ok (.aload_n 1, 1) := by decide +kernel
theorem dL_law_565 : decode cL_law 565 = .ok (.invokevirtual 86, 3) := by decide +kernel
theorem dL_law_568 : decode cL_law 568 = .ok (.aload_n 2, 1) := by decide +kernel
theorem dL_law_569 : decode cL_law 569 = .ok (.invokevirtual 89, 3) := by decide +kernel
theorem dL_law_572 : decode cL_law 572 = .ok (.if_icmp .eq 74, 3) := by decide +kernel
theorem dL_law_575 : decode cL_law 575 = .ok (.iconst 0, 1) := by decide +kernel
theorem dL_law_576 : decode cL_law 576 = .ok (.ireturn, 1) := by decide +kernel
theorem dL_law_577 : decode cL_law 577 = .ok (.aload_n 1, 1) := by decide +kernel
theorem dL_law_578 : decode cL_law 578 = .ok (.aload_n 0, 1) := by decide +kernel
theorem dL_law_579 : decode cL_law 579 = .ok (.iload_n 3, 1) := by decide +kernel
theorem dL_law_580 : decode cL_law 580 = .ok (.iconst 1, 1) := by decide +kernel
theorem dL_law_581 : decode cL_law 581 = .ok (.iadd, 1) := by decide +kernel
theorem dL_law_582 : decode cL_law 582 = .ok (.iaload, 1) := by decide +kernel
theorem dL_law_583 : decode cL_law 583 = .ok (.invokevirtual 90, 3) := by decide +kernel
theorem dL_law_586 : decode cL_law 586 = .ok (.aload_n 2, 1) := by decide +kernel
theorem dL_law_587 : decode cL_law 587 = .ok (.aload_n 0, 1) := by decide +kernel
theorem dL_law_588 : decode cL_law 588 = .ok (.iload_n 3, 1) := by decide +kernel
theorem dL_law_589 : decode cL_law 589 = .ok (.iconst 1, 1) := by decide +kernel
theorem dL_law_590 : decode cL_law 590 = .ok (.iadd, 1) := by decide +kernel
theorem dL_law_591 : decode cL_law 591 = .ok (.iaload, 1) := by decide +kernel
theorem dL_law_592 : decode cL_law 592 = .ok (.invokevirtual 93, 3) := by decide +kernel
theorem dL_law_595 : decode cL_law 595 = .ok (.if_icmp .eq 51, 3) := by decide +kernel
theorem dL_law_598 : decode cL_law 598 = .ok (.iconst 0, 1) := by decide +kernel
theorem dL_law_599 : decode cL_law 599 = .ok (.ireturn, 1) := by decide +kernel
theorem dL_law_600 : decode cL_law 600 = .ok (.aload_n 1, 1) := by decide +kernel
theorem dL_law_601 : decode cL_law 601 = .ok (.aload_n 0, 1) := by decide +kernel
theorem dL_law_602 : decode cL_law 602 = .ok (.iload_n 3, 1) := by decide +kernel
theorem dL_law_603 : decode cL_law 603 = .ok (.iconst 1, 1) := by decide +kernel
theorem dL_law_604 : decode cL_law 604 = .ok (.iadd, 1) := by decide +kernel
theorem dL_law_605 : decode cL_law 605 = .ok (.iaload, 1) := by decide +kernel
theorem dL_law_606 : decode cL_law 606 = .ok (.invokevirtual 94, 3) := by decide +kernel
theorem dL_law_609 : decode cL_law 609 = .ok (.aload_n 2, 1) := by decide +kernel
theorem dL_law_610 : decode cL_law 610 = .ok (.aload_n 0, 1) := by decide +kernel
theorem dL_law_611 : decode cL_law 611 = .ok (.iload_n 3, 1) := by decide +kernel
theorem dL_law_612 : decode cL_law 612 = .ok (.iconst 1, 1) := by decide +kernel
theorem dL_law_613 : decode cL_law 613 = .ok (.iadd, 1) := by decide +kernel
theorem dL_law_614 : decode cL_law 614 = .ok (.iaload, 1) := by decide +kernel
theorem dL_law_615 : decode cL_law 615 = .ok (.invokevirtual 97, 3) := by decide +kernel
theorem dL_law_618 : decode cL_law 618 = .ok (.if_icmp .eq 28, 3) := by decide +kernel
theorem dL_law_621 : decode cL_law 621 = .ok (.iconst 0, 1) := by decide +kernel
theorem dL_law_622 : decode cL_law 622 = .ok (.ireturn, 1) := by decide +kernel
theorem dL_law_623 : decode cL_law 623 = .ok (.aload_n 1, 1) := by decide +kernel
theorem dL_law_624 : decode cL_law 624 = .ok (.aload_n 0, 1) := by decide +kernel
theorem dL_law_625 : decode cL_law 625 = .ok (.iload_n 3, 1) := by decide +kernel
theorem dL_law_626 : decode cL_law 626 = .ok (.iconst 1, 1) := by decide +kernel
theorem dL_law_627 : decode cL_law 627 = .ok (.iadd, 1) := by decide +kernel
theorem dL_law_628 : decode cL_law 628 = .ok (.iaload, 1) := by decide +kernel
theorem dL_law_629 : decode cL_law 629 = .ok (.invokevirtual 98, 3) := by decide +kernel
theorem dL_law_632 : decode cL_law 632 = .ok (.aload_n 2, 1) := by decide +kernel
theorem dL_law_633 : decode cL_law 633 = .ok (.aload_n 0, 1) := by decide +kernel
theorem dL_law_634 : decode cL_law 634 = .ok (.iload_n 3, 1) := by decide +kernel
theorem dL_law_635 : decode cL_law 635 = .ok (.iconst 1, 1) := by decide +kernel
theorem dL_law_636 : decode cL_law 636 = .ok (.iadd, 1) := by decide +kernel
theorem dL_law_637 : decode cL_law 637 = .ok (.iaload, 1) := by decide +kernel
theorem dL_law_638 : decode cL_law 638 = .ok (.invokevirtual 101, 3) := by decide +kernel
theorem dL_law_641 : decode cL_law 641 = .ok (.if_icmp .eq 5, 3) := by decide +kernel
theorem dL_law_644 : decode cL_law 644 = .ok (.iconst 0, 1) := by decide +kernel
theorem dL_law_645 : decode cL_law 645 = .ok (.ireturn, 1) := by decide +kernel
theorem dL_law_646 : decode cL_law 646 = .ok (.iinc 3 4, 3) := by decide +kernel
theorem dL_law_649 : decode cL_law 649 = .ok (.goto (-631), 3) := by decide +kernel
theorem dL_law_652 : decode cL_law 652 = .ok (.iconst 1, 1) := by decide +kernel
theorem dL_law_653 : decode cL_law 653 = .ok (.ireturn, 1) := by decide +kernel
