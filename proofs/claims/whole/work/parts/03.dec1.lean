theorem dX0_init_0 : decode cX0_init 0 = .ok (.aload_n 0, 1) := by decide +kernel
theorem dX0_init_1 : decode cX0_init 1 = .ok (.invokespecial 3, 3) := by decide +kernel
theorem dX0_init_4 : decode cX0_init 4 = .ok (.aload_n 0, 1) := by decide +kernel
theorem dX0_init_5 : decode cX0_init 5 = .ok (.iconst 1, 1) := by decide +kernel
theorem dX0_init_6 : decode cX0_init 6 = .ok (.putfield 9, 3) := by decide +kernel
theorem dX0_init_9 : decode cX0_init 9 = .ok (.aload_n 0, 1) := by decide +kernel
theorem dX0_init_10 : decode cX0_init 10 = .ok (.bipush 8, 2) := by decide +kernel
theorem dX0_init_12 : decode cX0_init 12 = .ok (.putfield 15, 3) := by decide +kernel
theorem dX0_init_15 : decode cX0_init 15 = .ok (.aload_n 0, 1) := by decide +kernel
theorem dX0_init_16 : decode cX0_init 16 = .ok (.bipush 8, 2) := by decide +kernel
theorem dX0_init_18 : decode cX0_init 18 = .ok (.putfield 18, 3) := by decide +kernel
theorem dX0_init_21 : decode cX0_init 21 = .ok (.aload_n 0, 1) := by decide +kernel
theorem dX0_init_22 : decode cX0_init 22 = .ok (.bipush 64, 2) := by decide +kernel
theorem dX0_init_24 : decode cX0_init 24 = .ok (.newarray .int, 2) := by decide +kernel
theorem dX0_init_26 : decode cX0_init 26 = .ok (.putfield 21, 3) := by decide +kernel
theorem dX0_init_29 : decode cX0_init 29 = .ok (.aload_n 0, 1) := by decide +kernel
theorem dX0_init_30 : decode cX0_init 30 = .ok (.bipush 64, 2) := by decide +kernel
theorem dX0_init_32 : decode cX0_init 32 = .ok (.newarray .int, 2) := by decide +kernel
theorem dX0_init_34 : decode cX0_init 34 = .ok (.putfield 25, 3) := by decide +kernel
theorem dX0_init_37 : decode cX0_init 37 = .ok (.aload_n 0, 1) := by decide +kernel
theorem dX0_init_38 : decode cX0_init 38 = .ok (.bipush 64, 2) := by decide +kernel
theorem dX0_init_40 : decode cX0_init 40 = .ok (.newarray .int, 2) := by decide +kernel
theorem dX0_init_42 : decode cX0_init 42 = .ok (.putfield 28, 3) := by decide +kernel
theorem dX0_init_45 : decode cX0_init 45 = .ok (.aload_n 0, 1) := by decide +kernel
theorem dX0_init_46 : decode cX0_init 46 = .ok (.bipush 64, 2) := by decide +kernel
theorem dX0_init_48 : decode cX0_init 48 = .ok (.newarray .int, 2) := by decide +kernel
theorem dX0_init_50 : decode cX0_init 50 = .ok (.putfield 31, 3) := by decide +kernel
theorem dX0_init_53 : decode cX0_init 53 = .ok (.aload_n 0, 1) := by decide +kernel
theorem dX0_init_54 : decode cX0_init 54 = .ok (.bipush 64, 2) := by decide +kernel
theorem dX0_init_56 : decode cX0_init 56 = .ok (.newarray .int, 2) := by decide +kernel
theorem dX0_init_58 : decode cX0_init 58 = .ok (.putfield 34, 3) := by decide +kernel
theorem dX0_init_61 : decode cX0_init 61 = .ok (.aload_n 0, 1) := by decide +kernel
theorem dX0_init_62 : decode cX0_init 62 = .ok (.bipush 64, 2) := by decide +kernel
theorem dX0_init_64 : decode cX0_init 64 = .ok (.newarray .int, 2) := by decide +kernel
theorem dX0_init_66 : decode cX0_init 66 = .ok (.putfield 37, 3) := by decide +kernel
theorem dX0_init_69 : decode cX0_init 69 = .ok (.aload_n 0, 1) := by decide +kernel
theorem dX0_init_70 : decode cX0_init 70 = .ok (.bipush 64, 2) := by decide +kernel
theorem dX0_init_72 : decode cX0_init 72 = .ok (.newarray .int, 2) := by decide +kernel
theorem dX0_init_74 : decode cX0_init 74 = .ok (.putfield 40, 3) := by decide +kernel
theorem dX0_init_77 : decode cX0_init 77 = .ok (.aload_n 0, 1) := by decide +kernel
theorem dX0_init_78 : decode cX0_init 78 = .ok (.iconst 5, 1) := by decide +kernel
theorem dX0_init_79 : decode cX0_init 79 = .ok (.newarray .int, 2) := by decide +kernel
theorem dX0_init_81 : decode cX0_init 81 = .ok (.putfield 43, 3) := by decide +kernel
theorem dX0_init_84 : decode cX0_init 84 = .ok (.aload_n 0, 1) := by decide +kernel
theorem dX0_init_85 : decode cX0_init 85 = .ok (.new 46, 3) := by decide +kernel
theorem dX0_init_88 : decode cX0_init 88 = .ok (.dup, 1) := by decide +kernel
theorem dX0_init_89 : decode cX0_init 89 = .ok (.invokespecial 48, 3) := by decide +kernel
theorem dX0_init_92 : decode cX0_init 92 = .ok (.putfield 49, 3) := by decide +kernel
theorem dX0_init_95 : decode cX0_init 95 = .ok (.return_, 1) := by decide +kernel
theorem dX0_begin_0 : decode cX0_begin 0 = .ok (.aload_n 0, 1) := by decide +kernel
theorem dX0_begin_1 : decode cX0_begin 1 = .ok (.iconst 1, 1) := by decide +kernel
theorem dX0_begin_2 : decode cX0_begin 2 = .ok (.putfield 9, 3) := by decide +kernel
theorem dX0_begin_5 : decode cX0_begin 5 = .ok (.aload_n 0, 1) := by decide +kernel
theorem dX0_begin_6 : decode cX0_begin 6 = .ok (.bipush 8, 2) := by decide +kernel
theorem dX0_begin_8 : decode cX0_begin 8 = .ok (.putfield 15, 3) := by decide +kernel
theorem dX0_begin_11 : decode cX0_begin 11 = .ok (.aload_n 0, 1) := by decide +kernel
theorem dX0_begin_12 : decode cX0_begin 12 = .ok (.bipush 8, 2) := by decide +kernel
theorem dX0_begin_14 : decode cX0_begin 14 = .ok (.putfield 18, 3) := by decide +kernel
theorem dX0_begin_17 : decode cX0_begin 17 = .ok (.aload_n 0, 1) := by decide +kernel
theorem dX0_begin_18 : decode cX0_begin 18 = .ok (.iconst 0, 1) := by decide +kernel
theorem dX0_begin_19 : decode cX0_begin 19 = .ok (.putfield 53, 3) := by decide +kernel
theorem dX0_begin_22 : decode cX0_begin 22 = .ok (.aload_n 0, 1) := by decide +kernel
theorem dX0_begin_23 : decode cX0_begin 23 = .ok (.iconst 0, 1) := by decide +kernel
theorem dX0_begin_24 : decode cX0_begin 24 = .ok (.putfield 56, 3) := by decide +kernel
theorem dX0_begin_27 : decode cX0_begin 27 = .ok (.aload_n 0, 1) := by decide +kernel
theorem dX0_begin_28 : decode cX0_begin 28 = .ok (.getfield 49, 3) := by decide +kernel
theorem dX0_begin_31 : decode cX0_begin 31 = .ok (.iconst 0, 1) := by decide +kernel
theorem dX0_begin_32 : decode cX0_begin 32 = .ok (.putfield 59, 3) := by decide +kernel
theorem dX0_begin_35 : decode cX0_begin 35 = .ok (.iconst 0, 1) := by decide +kernel
theorem dX0_begin_36 : decode cX0_begin 36 = .ok (.istore_n 1, 1) := by decide +kernel
theorem dX0_begin_37 : decode cX0_begin 37 = .ok (.iload_n 1, 1) := by decide +kernel
theorem dX0_begin_38 : decode cX0_begin 38 = .ok (.iconst 5, 1) := by decide +kernel
theorem dX0_begin_39 : decode cX0_begin 39 = .ok (.if_icmp .ge 16, 3) := by decide +kernel
theorem dX0_begin_42 : decode cX0_begin 42 = .ok (.aload_n 0, 1) := by decide +kernel
theorem dX0_begin_43 : decode cX0_begin 43 = .ok (.getfield 43, 3) := by decide +kernel
theorem dX0_begin_46 : decode cX0_begin 46 = .ok (.iload_n 1, 1) := by decide +kernel
theorem dX0_begin_47 : decode cX0_begin 47 = .ok (.iconst 0, 1) := by decide +kernel
theorem dX0_begin_48 : decode cX0_begin 48 = .ok (.iastore, 1) := by decide +kernel
theorem dX0_begin_49 : decode cX0_begin 49 = .ok (.iinc 1 1, 3) := by decide +kernel
theorem dX0_begin_52 : decode cX0_begin 52 = .ok (.goto (-15), 3) := by decide +kernel
theorem dX0_begin_55 : decode cX0_begin 55 = .ok (.return_, 1) := by decide +kernel
theorem dX0_becomes_0 : decode cX0_becomes 0 = .ok (.aload_n 0, 1) := by decide +kernel
theorem dX0_becomes_1 : decode cX0_becomes 1 = .ok (.aload_n 1, 1) := by decide +kernel
theorem dX0_becomes_2 : decode cX0_becomes 2 = .ok (.getfield 9, 3) := by decide +kernel
theorem dX0_becomes_5 : decode cX0_becomes 5 = .ok (.putfield 9, 3) := by decide +kernel
theorem dX0_becomes_8 : decode cX0_becomes 8 = .ok (.aload_n 0, 1) := by decide +kernel
theorem dX0_becomes_9 : decode cX0_becomes 9 = .ok (.aload_n 1, 1) := by decide +kernel
theorem dX0_becomes_10 : decode cX0_becomes 10 = .ok (.getfield 15, 3) := by decide +kernel
theorem dX0_becomes_13 : decode cX0_becomes 13 = .ok (.putfield 15, 3) := by decide +kernel
theorem dX0_becomes_16 : decode cX0_becomes 16 = .ok (.aload_n 0, 1) := by decide +kernel
theorem dX0_becomes_17 : decode cX0_becomes 17 = .ok (.aload_n 1, 1) := by decide +kernel
theorem dX0_becomes_18 : decode cX0_becomes 18 = .ok (.getfield 18, 3) := by decide +kernel
theorem dX0_becomes_21 : decode cX0_becomes 21 = .ok (.putfield 18, 3) := by decide +kernel
theorem dX0_becomes_24 : decode cX0_becomes 24 = .ok (.aload_n 0, 1) := by decide +kernel
theorem dX0_becomes_25 : decode cX0_becomes 25 = .ok (.aload_n 1, 1) := by decide +kernel
theorem dX0_becomes_26 : decode cX0_becomes 26 = .ok (.getfield 53, 3) := by decide +kernel
theorem dX0_becomes_29 : decode cX0_becomes 29 = .ok (.putfield 53, 3) := by decide +kernel
theorem dX0_becomes_32 : decode cX0_becomes 32 = .ok (.aload_n 0, 1) := by decide +kernel
theorem dX0_becomes_33 : decode cX0_becomes 33 = .ok (.aload_n 1, 1) := by decide +kernel
theorem dX0_becomes_34 : decode cX0_becomes 34 = .ok (.getfield 56, 3) := by decide +kernel
theorem dX0_becomes_37 : decode cX0_becomes 37 = .ok (.putfield 56, 3) := by decide +kernel
theorem dX0_becomes_40 : decode cX0_becomes 40 = .ok (.aload_n 1, 1) := by decide +kernel
theorem dX0_becomes_41 : decode cX0_becomes 41 = .ok (.getfield 21, 3) := by decide +kernel
theorem dX0_becomes_44 : decode cX0_becomes 44 = .ok (.iconst 0, 1) := by decide +kernel
theorem dX0_becomes_45 : decode cX0_becomes 45 = .ok (.aload_n 0, 1) := by decide +kernel
theorem dX0_becomes_46 : decode cX0_becomes 46 = .ok (.getfield 21, 3) := by decide +kernel
theorem dX0_becomes_49 : decode cX0_becomes 49 = .ok (.iconst 0, 1) := by decide +kernel
theorem dX0_becomes_50 : decode cX0_becomes 50 = .ok (.aload_n 0, 1) := by decide +kernel
theorem dX0_becomes_51 : decode cX0_becomes 51 = .ok (.getfield 56, 3) := by decide +kernel
theorem dX0_becomes_54 : decode cX0_becomes 54 = .ok (.invokestatic 62, 3) := by decide +kernel
theorem dX0_becomes_57 : decode cX0_becomes 57 = .ok (.aload_n 1, 1) := by decide +kernel
theorem dX0_becomes_58 : decode cX0_becomes 58 = .ok (.getfield 25, 3) := by decide +kernel
theorem dX0_becomes_61 : decode cX0_becomes 61 = .ok (.iconst 0, 1) := by decide +kernel
theorem dX0_becomes_62 : decode cX0_becomes 62 = .ok (.aload_n 0, 1) := by decide +kernel
theorem dX0_becomes_63 : decode cX0_becomes 63 = .ok (.getfield 25, 3) := by decide +kernel
theorem dX0_becomes_66 : decode cX0_becomes 66 = .ok (.iconst 0, 1) := by decide +kernel
theorem dX0_becomes_67 : decode cX0_becomes 67 = .ok (.aload_n 0, 1) := by decide +kernel
theorem dX0_becomes_68 : decode cX0_becomes 68 = .ok (.getfield 56, 3) := by decide +kernel
theorem dX0_becomes_71 : decode cX0_becomes 71 = .ok (.invokestatic 62, 3) := by decide +kernel
theorem dX0_becomes_74 : decode cX0_becomes 74 = .ok (.aload_n 1, 1) := by decide +kernel
theorem dX0_becomes_75 : decode cX0_becomes 75 = .ok (.getfield 28, 3) := by decide +kernel
theorem dX0_becomes_78 : decode cX0_becomes 78 = .ok (.iconst 0, 1) := by decide +kernel
theorem dX0_becomes_79 : decode cX0_becomes 79 = .ok (.aload_n 0, 1) := by decide +kernel
theorem dX0_becomes_80 : decode cX0_becomes 80 = .ok (.getfield 28, 3) := by decide +kernel
theorem dX0_becomes_83 : decode cX0_becomes 83 = .ok (.iconst 0, 1) := by decide +kernel
theorem dX0_becomes_84 : decode cX0_becomes 84 = .ok (.aload_n 0, 1) := by decide +kernel
theorem dX0_becomes_85 : decode cX0_becomes 85 = .ok (.getfield 56, 3) := by decide +kernel
theorem dX0_becomes_88 : decode cX0_becomes 88 = .ok (.invokestatic 62, 3) := by decide +kernel
theorem dX0_becomes_91 : decode cX0_becomes 91 = .ok (.aload_n 1, 1) := by decide +kernel
theorem dX0_becomes_92 : decode cX0_becomes 92 = .ok (.getfield 31, 3) := by decide +kernel
theorem dX0_becomes_95 : decode cX0_becomes 95 = .ok (.iconst 0, 1) := by decide +kernel
theorem dX0_becomes_96 : decode cX0_becomes 96 = .ok (.aload_n 0, 1) := by decide +kernel
theorem dX0_becomes_97 : decode cX0_becomes 97 = .ok (.getfield 31, 3) := by decide +kernel
theorem dX0_becomes_100 : decode cX0_becomes 100 = .ok (.iconst 0, 1) := by decide +kernel
theorem dX0_becomes_101 : decode cX0_becomes 101 = .ok (.aload_n 0, 1) := by decide +kernel
theorem dX0_becomes_102 : decode cX0_becomes 102 = .ok (.getfield 56, 3) := by decide +kernel
theorem dX0_becomes_105 : decode cX0_becomes 105 = .ok (.invokestatic 62, 3) := by decide +kernel
theorem dX0_becomes_108 : decode cX0_becomes 108 = .ok (.aload_n 1, 1) := by decide +kernel
theorem dX0_becomes_109 : decode cX0_becomes 109 = .ok (.getfield 34, 3) := by decide +kernel
theorem dX0_becomes_112 : decode cX0_becomes 112 = .ok (.iconst 0, 1) := by decide +kernel
theorem dX0_becomes_113 : decode cX0_becomes 113 = .ok (.aload_n 0, 1) := by decide +kernel
theorem dX0_becomes_114 : decode cX0_becomes 114 = .ok (.getfield 34, 3) := by decide +kernel
theorem dX0_becomes_117 : decode cX0_becomes 117 = .ok (.iconst 0, 1) := by decide +kernel
theorem dX0_becomes_118 : decode cX0_becomes 118 = .ok (.aload_n 0, 1) := by decide +kernel
theorem dX0_becomes_119 : decode cX0_becomes 119 = .ok (.getfield 56, 3) := by decide +kernel
theorem dX0_becomes_122 : decode cX0_becomes 122 = .ok (.invokestatic 62, 3) := by decide +kernel
theorem dX0_becomes_125 : decode cX0_becomes 125 = .ok (.aload_n 1, 1) := by decide +kernel
theorem dX0_becomes_126 : decode cX0_becomes 126 = .ok (.getfield 37, 3) := by decide +kernel
theorem dX0_becomes_129 : decode cX0_becomes 129 = .ok (.iconst 0, 1) := by decide +kernel
theorem dX0_becomes_130 : decode cX0_becomes 130 = .ok (.aload_n 0, 1) := by decide +kernel
theorem dX0_becomes_131 : decode cX0_becomes 131 = .ok (.getfield 37, 3) := by decide +kernel
theorem dX0_becomes_134 : decode cX0_becomes 134 = .ok (.iconst 0, 1) := by decide +kernel
theorem dX0_becomes_135 : decode cX0_becomes 135 = .ok (.aload_n 0, 1) := by decide +kernel
theorem dX0_becomes_136 : decode cX0_becomes 136 = .ok (.getfield 56, 3) := by decide +kernel
theorem dX0_becomes_139 : decode cX0_becomes 139 = .ok (.invokestatic 62, 3) := by decide +kernel
theorem dX0_becomes_142 : decode cX0_becomes 142 = .ok (.aload_n 1, 1) := by decide +kernel
theorem dX0_becomes_143 : decode cX0_becomes 143 = .ok (.getfield 40, 3) := by decide +kernel
theorem dX0_becomes_146 : decode cX0_becomes 146 = .ok (.iconst 0, 1) := by decide +kernel
theorem dX0_becomes_147 : decode cX0_becomes 147 = .ok (.aload_n 0, 1) := by decide +kernel
theorem dX0_becomes_148 : decode cX0_becomes 148 = .ok (.getfield 40, 3) := by decide +kernel
theorem dX0_becomes_151 : decode cX0_becomes 151 = .ok (.iconst 0, 1) := by decide +kernel
theorem dX0_becomes_152 : decode cX0_becomes 152 = .ok (.aload_n 0, 1) := by decide +kernel
theorem dX0_becomes_153 : decode cX0_becomes 153 = .ok (.getfield 56, 3) := by decide +kernel
theorem dX0_becomes_156 : decode cX0_becomes 156 = .ok (.invokestatic 62, 3) := by decide +kernel
theorem dX0_becomes_159 : decode cX0_becomes 159 = .ok (.aload_n 1, 1) := by decide +kernel
theorem dX0_becomes_160 : decode cX0_becomes 160 = .ok (.getfield 43, 3) := by decide +kernel
theorem dX0_becomes_163 : decode cX0_becomes 163 = .ok (.iconst 0, 1) := by decide +kernel
theorem dX0_becomes_164 : decode cX0_becomes 164 = .ok (.aload_n 0, 1) := by decide +kernel
theorem dX0_becomes_165 : decode cX0_becomes 165 = .ok (.getfield 43, 3) := by decide +kernel
theorem dX0_becomes_168 : decode cX0_becomes 168 = .ok (.iconst 0, 1) := by decide +kernel
theorem dX0_becomes_169 : decode cX0_becomes 169 = .ok (.iconst 5, 1) := by decide +kernel
theorem dX0_becomes_170 : decode cX0_becomes 170 = .ok (.invokestatic 62, 3) := by decide +kernel
theorem dX0_becomes_173 : decode cX0_becomes 173 = .ok (.aload_n 0, 1) := by decide +kernel
theorem dX0_becomes_174 : decode cX0_becomes 174 = .ok (.getfield 49, 3) := by decide +kernel
theorem dX0_becomes_177 : decode cX0_becomes 177 = .ok (.aload_n 1, 1) := by decide +kernel
theorem dX0_becomes_178 : decode cX0_becomes 178 = .ok (.getfield 49, 3) := by decide +kernel
theorem dX0_becomes_181 : decode cX0_becomes 181 = .ok (.invokevirtual 68, 3) := by decide +kernel
theorem dX0_becomes_184 : decode cX0_becomes 184 = .ok (.return_, 1) := by decide +kernel
theorem dX0_addLetter_0 : decode cX0_addLetter 0 = .ok (.aload_n 0, 1) := by decide +kernel
theorem dX0_addLetter_1 : decode cX0_addLetter 1 = .ok (.getfield 56, 3) := by decide +kernel
theorem dX0_addLetter_4 : decode cX0_addLetter 4 = .ok (.bipush 64, 2) := by decide +kernel
theorem dX0_addLetter_6 : decode cX0_addLetter 6 = .ok (.if_icmp .lt 6, 3) := by decide +kernel
theorem dX0_addLetter_9 : decode cX0_addLetter 9 = .ok (.bipush (-3), 2) := by decide +kernel
theorem dX0_addLetter_11 : decode cX0_addLetter 11 = .ok (.ireturn, 1) := by decide +kernel
theorem dX0_addLetter_12 : decode cX0_addLetter 12 = .ok (.aload_n 0, 1) := by decide +kernel
theorem dX0_addLetter_13 : decode cX0_addLetter 13 = .ok (.getfield 56, 3) := by decide +kernel
theorem dX0_addLetter_16 : decode cX0_addLetter 16 = .ok (.istore 4, 2) := by decide +kernel
theorem dX0_addLetter_18 : decode cX0_addLetter 18 = .ok (.aload_n 0, 1) := by decide +kernel
theorem dX0_addLetter_19 : decode cX0_addLetter 19 = .ok (.dup, 1) := by decide +kernel
theorem dX0_addLetter_20 : decode cX0_addLetter 20 = .ok (.getfield 56, 3) := by decide +kernel
theorem dX0_addLetter_23 : decode cX0_addLetter 23 = .ok (.iconst 1, 1) := by decide +kernel
theorem dX0_addLetter_24 : decode cX0_addLetter 24 = .ok (.iadd, 1) := by decide +kernel
theorem dX0_addLetter_25 : decode cX0_addLetter 25 = .ok (.putfield 56, 3) := by decide +kernel
theorem dX0_addLetter_28 : decode cX0_addLetter 28 = .ok (.aload_n 0, 1) := by decide +kernel
theorem dX0_addLetter_29 : decode cX0_addLetter 29 = .ok (.getfield 21, 3) := by decide +kernel
theorem dX0_addLetter_32 : decode cX0_addLetter 32 = .ok (.iload 4, 2) := by decide +kernel
theorem dX0_addLetter_34 : decode cX0_addLetter 34 = .ok (.iconst 0, 1) := by decide +kernel
theorem dX0_addLetter_35 : decode cX0_addLetter 35 = .ok (.iastore, 1) := by decide +kernel
theorem dX0_addLetter_36 : decode cX0_addLetter 36 = .ok (.aload_n 0, 1) := by decide +kernel
theorem dX0_addLetter_37 : decode cX0_addLetter 37 = .ok (.getfield 43, 3) := by decide +kernel
theorem dX0_addLetter_40 : decode cX0_addLetter 40 = .ok (.iconst 0, 1) := by decide +kernel
theorem dX0_addLetter_41 : decode cX0_addLetter 41 = .ok (.dup2, 1) := by decide +kernel
theorem dX0_addLetter_42 : decode cX0_addLetter 42 = .ok (.iaload, 1) := by decide +kernel
theorem dX0_addLetter_43 : decode cX0_addLetter 43 = .ok (.iconst 1, 1) := by decide +kernel
theorem dX0_addLetter_44 : decode cX0_addLetter 44 = .ok (.iadd, 1) := by decide +kernel
theorem dX0_addLetter_45 : decode cX0_addLetter 45 = .ok (.iastore, 1) := by decide +kernel
theorem dX0_addLetter_46 : decode cX0_addLetter 46 = .ok (.aload_n 0, 1) := by decide +kernel
theorem dX0_addLetter_47 : decode cX0_addLetter 47 = .ok (.getfield 25, 3) := by decide +kernel
theorem dX0_addLetter_50 : decode cX0_addLetter 50 = .ok (.iload 4, 2) := by decide +kernel
theorem dX0_addLetter_52 : decode cX0_addLetter 52 = .ok (.iload_n 1, 1) := by decide +kernel
theorem dX0_addLetter_53 : decode cX0_addLetter 53 = .ok (.iastore, 1) := by decide +kernel
theorem dX0_addLetter_54 : decode cX0_addLetter 54 = .ok (.aload_n 0, 1) := by decide +kernel
theorem dX0_addLetter_55 : decode cX0_addLetter 55 = .ok (.getfield 28, 3) := by decide +kernel
theorem dX0_addLetter_58 : decode cX0_addLetter 58 = .ok (.iload 4, 2) := by decide +kernel
theorem dX0_addLetter_60 : decode cX0_addLetter 60 = .ok (.iload_n 2, 1) := by decide +kernel
theorem dX0_addLetter_61 : decode cX0_addLetter 61 = .ok (.iastore, 1) := by decide +kernel
theorem dX0_addLetter_62 : decode cX0_addLetter 62 = .ok (.aload_n 0, 1) := by decide +kernel
theorem dX0_addLetter_63 : decode cX0_addLetter 63 = .ok (.getfield 31, 3) := by decide +kernel
theorem dX0_addLetter_66 : decode cX0_addLetter 66 = .ok (.iload 4, 2) := by decide +kernel
theorem dX0_addLetter_68 : decode cX0_addLetter 68 = .ok (.iload_n 3, 1) := by decide +kernel
theorem dX0_addLetter_69 : decode cX0_addLetter 69 = .ok (.iastore, 1) := by decide +kernel
theorem dX0_addLetter_70 : decode cX0_addLetter 70 = .ok (.aload_n 0, 1) := by decide +kernel
theorem dX0_addLetter_71 : decode cX0_addLetter 71 = .ok (.getfield 34, 3) := by decide +kernel
theorem dX0_addLetter_74 : decode cX0_addLetter 74 = .ok (.iload 4, 2) := by decide +kernel
theorem dX0_addLetter_76 : decode cX0_addLetter 76 = .ok (.aload_n 0, 1) := by decide +kernel
theorem dX0_addLetter_77 : decode cX0_addLetter 77 = .ok (.getfield 53, 3) := by decide +kernel
theorem dX0_addLetter_80 : decode cX0_addLetter 80 = .ok (.iastore, 1) := by decide +kernel
theorem dX0_addLetter_81 : decode cX0_addLetter 81 = .ok (.aload_n 0, 1) := by decide +kernel
theorem dX0_addLetter_82 : decode cX0_addLetter 82 = .ok (.getfield 37, 3) := by decide +kernel
theorem dX0_addLetter_85 : decode cX0_addLetter 85 = .ok (.iload 4, 2) := by decide +kernel
theorem dX0_addLetter_87 : decode cX0_addLetter 87 = .ok (.bipush (-9), 2) := by decide +kernel
theorem dX0_addLetter_89 : decode cX0_addLetter 89 = .ok (.iastore, 1) := by decide +kernel
theorem dX0_addLetter_90 : decode cX0_addLetter 90 = .ok (.aload_n 0, 1) := by decide +kernel
theorem dX0_addLetter_91 : decode cX0_addLetter 91 = .ok (.getfield 40, 3) := by decide +kernel
theorem dX0_addLetter_94 : decode cX0_addLetter 94 = .ok (.iload 4, 2) := by decide +kernel
theorem dX0_addLetter_96 : decode cX0_addLetter 96 = .ok (.iconst 0, 1) := by decide +kernel
theorem dX0_addLetter_97 : decode cX0_addLetter 97 = .ok (.iastore, 1) := by decide +kernel
theorem dX0_addLetter_98 : decode cX0_addLetter 98 = .ok (.iload 4, 2) := by decide +kernel
theorem dX0_addLetter_100 : decode cX0_addLetter 100 = .ok (.ireturn, 1) := by decide +kernel
theorem dX0_letterAt_0 : decode cX0_letterAt 0 = .ok (.iconst 0, 1) := by decide +kernel
theorem dX0_letterAt_1 : decode cX0_letterAt 1 = .ok (.istore_n 2, 1) := by decide +kernel
theorem dX0_letterAt_2 : decode cX0_letterAt 2 = .ok (.iload_n 2, 1) := by decide +kernel
theorem dX0_letterAt_3 : decode cX0_letterAt 3 = .ok (.aload_n 0, 1) := by decide +kernel
theorem dX0_letterAt_4 : decode cX0_letterAt 4 = .ok (.getfield 56, 3) := by decide +kernel
theorem dX0_letterAt_7 : decode cX0_letterAt 7 = .ok (.if_icmp .ge 30, 3) := by decide +kernel
theorem dX0_letterAt_10 : decode cX0_letterAt 10 = .ok (.aload_n 0, 1) := by decide +kernel
theorem dX0_letterAt_11 : decode cX0_letterAt 11 = .ok (.getfield 21, 3) := by decide +kernel
theorem dX0_letterAt_14 : decode cX0_letterAt 14 = .ok (.iload_n 2, 1) := by decide +kernel
theorem dX0_letterAt_15 : decode cX0_letterAt 15 = .ok (.iaload, 1) := by decide +kernel
theorem dX0_letterAt_16 : decode cX0_letterAt 16 = .ok (.ifCond .ne 15, 3) := by decide +kernel
theorem dX0_letterAt_19 : decode cX0_letterAt 19 = .ok (.aload_n 0, 1) := by decide +kernel
theorem dX0_letterAt_20 : decode cX0_letterAt 20 = .ok (.getfield 25, 3) := by decide +kernel
theorem dX0_letterAt_23 : decode cX0_letterAt 23 = .ok (.iload_n 2, 1) := by decide +kernel
theorem dX0_letterAt_24 : decode cX0_letterAt 24 = .ok (.iaload, 1) := by decide +kernel
theorem dX0_letterAt_25 : decode cX0_letterAt 25 = .ok (.iload_n 1, 1) := by decide +kernel
theorem dX0_letterAt_26 : decode cX0_letterAt 26 = .ok (.if_icmp .ne 5, 3) := by decide +kernel
theorem dX0_letterAt_29 : decode cX0_letterAt 29 = .ok (.iload_n 2, 1) := by decide +kernel
theorem dX0_letterAt_30 : decode cX0_letterAt 30 = .ok (.ireturn, 1) := by decide +kernel
theorem dX0_letterAt_31 : decode cX0_letterAt 31 = .ok (.iinc 2 1, 3) := by decide +kernel
theorem dX0_letterAt_34 : decode cX0_letterAt 34 = .ok (.goto (-32), 3) := by decide +kernel
theorem dX0_letterAt_37 : decode cX0_letterAt 37 = .ok (.bipush (-9), 2) := by decide +kernel
theorem dX0_letterAt_39 : decode cX0_letterAt 39 = .ok (.ireturn, 1) := by decide +kernel
theorem dX0_queuedLetter_0 : decode cX0_queuedLetter 0 = .ok (.iconst 0, 1) := by decide +kernel
theorem dX0_queuedLetter_1 : decode cX0_queuedLetter 1 = .ok (.istore_n 3, 1) := by decide +kernel
theorem dX0_queuedLetter_2 : decode cX0_queuedLetter 2 = .ok (.iconst 0, 1) := by decide +kernel
theorem dX0_queuedLetter_3 : decode cX0_queuedLetter 3 = .ok (.istore 4, 2) := by decide +kernel
theorem dX0_queuedLetter_5 : decode cX0_queuedLetter 5 = .ok (.iload 4, 2) := by decide +kernel
theorem dX0_queuedLetter_7 : decode cX0_queuedLetter 7 = .ok (.aload_n 0, 1) := by decide +kernel
theorem dX0_queuedLetter_8 : decode cX0_queuedLetter 8 = .ok (.getfield 49, 3) := by decide +kernel
theorem dX0_queuedLetter_11 : decode cX0_queuedLetter 11 = .ok (.getfield 59, 3) := by decide +kernel
theorem dX0_queuedLetter_14 : decode cX0_queuedLetter 14 = .ok (.if_icmp .ge 46, 3) := by decide +kernel
theorem dX0_queuedLetter_17 : decode cX0_queuedLetter 17 = .ok (.aload_n 0, 1) := by decide +kernel
theorem dX0_queuedLetter_18 : decode cX0_queuedLetter 18 = .ok (.getfield 49, 3) := by decide +kernel
theorem dX0_queuedLetter_21 : decode cX0_queuedLetter 21 = .ok (.getfield 72, 3) := by decide +kernel
theorem dX0_queuedLetter_24 : decode cX0_queuedLetter 24 = .ok (.iload 4, 2) := by decide +kernel
theorem dX0_queuedLetter_26 : decode cX0_queuedLetter 26 = .ok (.iaload, 1) := by decide +kernel
theorem dX0_queuedLetter_27 : decode cX0_queuedLetter 27 = .ok (.istore 5, 2) := by decide +kernel
theorem dX0_queuedLetter_29 : decode cX0_queuedLetter 29 = .ok (.aload_n 0, 1) := by decide +kernel
theorem dX0_queuedLetter_30 : decode cX0_queuedLetter 30 = .ok (.getfield 28, 3) := by decide +kernel
theorem dX0_queuedLetter_33 : decode cX0_queuedLetter 33 = .ok (.iload 5, 2) := by decide +kernel
theorem dX0_queuedLetter_35 : decode cX0_queuedLetter 35 = .ok (.iaload, 1) := by decide +kernel
theorem dX0_queuedLetter_36 : decode cX0_queuedLetter 36 = .ok (.iload_n 1, 1) := by decide +kernel
theorem dX0_queuedLetter_37 : decode cX0_queuedLetter 37 = .ok (.if_icmp .eq 6, 3) := by decide +kernel
theorem dX0_queuedLetter_40 : decode cX0_queuedLetter 40 = .ok (.goto 14, 3) := by decide +kernel
theorem dX0_queuedLetter_43 : decode cX0_queuedLetter 43 = .ok (.iload_n 3, 1) := by decide +kernel
theorem dX0_queuedLetter_44 : decode cX0_queuedLetter 44 = .ok (.iload_n 2, 1) := by decide +kernel
theorem dX0_queuedLetter_45 : decode cX0_queuedLetter 45 = .ok (.if_icmp .ne 6, 3) := by decide +kernel
theorem dX0_queuedLetter_48 : decode cX0_queuedLetter 48 = .ok (.iload 5, 2) := by decide +kernel
theorem dX0_queuedLetter_50 : decode cX0_queuedLetter 50 = .ok (.ireturn, 1) := by decide +kernel
theorem dX0_queuedLetter_51 : decode cX0_queuedLetter 51 = .ok (.iinc 3 1, 3) := by decide +kernel
theorem dX0_queuedLetter_54 : decode cX0_queuedLetter 54 = .ok (.iinc 4 1, 3) := by decide +kernel
theorem dX0_queuedLetter_57 : decode cX0_queuedLetter 57 = .ok (.goto (-52), 3) := by decide +kernel
theorem dX0_queuedLetter_60 : decode cX0_queuedLetter 60 = .ok (.bipush (-9), 2) := by decide +kernel
theorem dX0_queuedLetter_62 : decode cX0_queuedLetter 62 = .ok (.ireturn, 1) := by decide +kernel
theorem dX0_countLive_0 : decode cX0_countLive 0 = .ok (.aload_n 0, 1) := by decide +kernel
theorem dX0_countLive_1 : decode cX0_countLive 1 = .ok (.getfield 43, 3) := by decide +kernel
theorem dX0_countLive_4 : decode cX0_countLive 4 = .ok (.iconst 0, 1) := by decide +kernel
theorem dX0_countLive_5 : decode cX0_countLive 5 = .ok (.iaload, 1) := by decide +kernel
theorem dX0_countLive_6 : decode cX0_countLive 6 = .ok (.aload_n 0, 1) := by decide +kernel
theorem dX0_countLive_7 : decode cX0_countLive 7 = .ok (.getfield 43, 3) := by decide +kernel
theorem dX0_countLive_10 : decode cX0_countLive 10 = .ok (.iconst 1, 1) := by decide +kernel
theorem dX0_countLive_11 : decode cX0_countLive 11 = .ok (.iaload, 1) := by decide +kernel
theorem dX0_countLive_12 : decode cX0_countLive 12 = .ok (.iadd, 1) := by decide +kernel
theorem dX0_countLive_13 : decode cX0_countLive 13 = .ok (.aload_n 0, 1) := by decide +kernel
theorem dX0_countLive_14 : decode cX0_countLive 14 = .ok (.getfield 43, 3) := by decide +kernel
theorem dX0_countLive_17 : decode cX0_countLive 17 = .ok (.iconst 2, 1) := by decide +kernel
theorem dX0_countLive_18 : decode cX0_countLive 18 = .ok (.iaload, 1) := by decide +kernel
theorem dX0_countLive_19 : decode cX0_countLive 19 = .ok (.iadd, 1) := by decide +kernel
theorem dX0_countLive_20 : decode cX0_countLive 20 = .ok (.ireturn, 1) := by decide +kernel
theorem dX0_moveLetter_0 : decode cX0_moveLetter 0 = .ok (.aload_n 0, 1) := by decide +kernel
theorem dX0_moveLetter_1 : decode cX0_moveLetter 1 = .ok (.getfield 43, 3) := by decide +kernel
theorem dX0_moveLetter_4 : decode cX0_moveLetter 4 = .ok (.aload_n 0, 1) := by decide +kernel
theorem dX0_moveLetter_5 : decode cX0_moveLetter 5 = .ok (.getfield 21, 3) := by decide +kernel
theorem dX0_moveLetter_8 : decode cX0_moveLetter 8 = .ok (.iload_n 1, 1) := by decide +kernel
theorem dX0_moveLetter_9 : decode cX0_moveLetter 9 = .ok (.iaload, 1) := by decide +kernel
theorem dX0_moveLetter_10 : decode cX0_moveLetter 10 = .ok (.dup2, 1) := by decide +kernel
theorem dX0_moveLetter_11 : decode cX0_moveLetter 11 = .ok (.iaload, 1) := by decide +kernel
theorem dX0_moveLetter_12 : decode cX0_moveLetter 12 = .ok (.iconst 1, 1) := by decide +kernel
theorem dX0_moveLetter_13 : decode cX0_moveLetter 13 = .ok (.isub, 1) := by decide +kernel
theorem dX0_moveLetter_14 : decode cX0_moveLetter 14 = .ok (.iastore, 1) := by decide +kernel
theorem dX0_moveLetter_15 : decode cX0_moveLetter 15 = .ok (.aload_n 0, 1) := by decide +kernel
theorem dX0_moveLetter_16 : decode cX0_moveLetter 16 = .ok (.getfield 21, 3) := by decide +kernel
theorem dX0_moveLetter_19 : decode cX0_moveLetter 19 = .ok (.iload_n 1, 1) := by decide +kernel
theorem dX0_moveLetter_20 : decode cX0_moveLetter 20 = .ok (.iload_n 2, 1) := by decide +kernel
theorem dX0_moveLetter_21 : decode cX0_moveLetter 21 = .ok (.iastore, 1) := by decide +kernel
theorem dX0_moveLetter_22 : decode cX0_moveLetter 22 = .ok (.aload_n 0, 1) := by decide +kernel
theorem dX0_moveLetter_23 : decode cX0_moveLetter 23 = .ok (.getfield 43, 3) := by decide +kernel
theorem dX0_moveLetter_26 : decode cX0_moveLetter 26 = .ok (.iload_n 2, 1) := by decide +kernel
theorem dX0_moveLetter_27 : decode cX0_moveLetter 27 = .ok (.dup2, 1) := by decide +kernel
theorem dX0_moveLetter_28 : decode cX0_moveLetter 28 = .ok (.iaload, 1) := by decide +kernel
theorem dX0_moveLetter_29 : decode cX0_moveLetter 29 = .ok (.iconst 1, 1) := by decide +kernel
theorem dX0_moveLetter_30 : decode cX0_moveLetter 30 = .ok (.iadd, 1) := by decide +kernel
theorem dX0_moveLetter_31 : decode cX0_moveLetter 31 = .ok (.iastore, 1) := by decide +kernel
theorem dX0_moveLetter_32 : decode cX0_moveLetter 32 = .ok (.return_, 1) := by decide +kernel
theorem dX0_goesBefore_0 : decode cX0_goesBefore 0 = .ok (.iload_n 3, 1) := by decide +kernel
theorem dX0_goesBefore_1 : decode cX0_goesBefore 1 = .ok (.ifCond .eq 39, 3) := by decide +kernel
theorem dX0_goesBefore_4 : decode cX0_goesBefore 4 = .ok (.aload_n 0, 1) := by decide +kernel
theorem dX0_goesBefore_5 : decode cX0_goesBefore 5 = .ok (.getfield 28, 3) := by decide +kernel
theorem dX0_goesBefore_8 : decode cX0_goesBefore 8 = .ok (.iload_n 1, 1) := by decide +kernel
theorem dX0_goesBefore_9 : decode cX0_goesBefore 9 = .ok (.iaload, 1) := by decide +kernel
theorem dX0_goesBefore_10 : decode cX0_goesBefore 10 = .ok (.aload_n 0, 1) := by decide +kernel
theorem dX0_goesBefore_11 : decode cX0_goesBefore 11 = .ok (.getfield 28, 3) := by decide +kernel
theorem dX0_goesBefore_14 : decode cX0_goesBefore 14 = .ok (.iload_n 2, 1) := by decide +kernel
theorem dX0_goesBefore_15 : decode cX0_goesBefore 15 = .ok (.iaload, 1) := by decide +kernel
theorem dX0_goesBefore_16 : decode cX0_goesBefore 16 = .ok (.if_icmp .eq 24, 3) := by decide +kernel
theorem dX0_goesBefore_19 : decode cX0_goesBefore 19 = .ok (.aload_n 0, 1) := by decide +kernel
theorem dX0_goesBefore_20 : decode cX0_goesBefore 20 = .ok (.getfield 28, 3) := by decide +kernel
theorem dX0_goesBefore_23 : decode cX0_goesBefore 23 = .ok (.iload_n 1, 1) := by decide +kernel
theorem dX0_goesBefore_24 : decode cX0_goesBefore 24 = .ok (.iaload, 1) := by decide +kernel
theorem dX0_goesBefore_25 : decode cX0_goesBefore 25 = .ok (.aload_n 0, 1) := by decide +kernel
theorem dX0_goesBefore_26 : decode cX0_goesBefore 26 = .ok (.getfield 28, 3) := by decide +kernel
theorem dX0_goesBefore_29 : decode cX0_goesBefore 29 = .ok (.iload_n 2, 1) := by decide +kernel
theorem dX0_goesBefore_30 : decode cX0_goesBefore 30 = .ok (.iaload, 1) := by decide +kernel
theorem dX0_goesBefore_31 : decode cX0_goesBefore 31 = .ok (.if_icmp .ge 7, 3) := by decide +kernel
theorem dX0_goesBefore_34 : decode cX0_goesBefore 34 = .ok (.iconst 1, 1) := by decide +kernel
theorem dX0_goesBefore_35 : decode cX0_goesBefore 35 = .ok (.goto 4, 3) := by decide +kernel
theorem dX0_goesBefore_38 : decode cX0_goesBefore 38 = .ok (.iconst 0, 1) := by decide +kernel
theorem dX0_goesBefore_39 : decode cX0_goesBefore 39 = .ok (.ireturn, 1) := by decide +kernel
theorem dX0_goesBefore_40 : decode cX0_goesBefore 40 = .ok (.aload_n 0, 1) := by decide +kernel
theorem dX0_goesBefore_41 : decode cX0_goesBefore 41 = .ok (.getfield 31, 3) := by decide +kernel
theorem dX0_goesBefore_44 : decode cX0_goesBefore 44 = .ok (.iload_n 1, 1) := by decide +kernel
theorem dX0_goesBefore_45 : decode cX0_goesBefore 45 = .ok (.iaload, 1) := by decide +kernel
theorem dX0_goesBefore_46 : decode cX0_goesBefore 46 = .ok (.aload_n 0, 1) := by decide +kernel
theorem dX0_goesBefore_47 : decode cX0_goesBefore 47 = .ok (.getfield 31, 3) := by decide +kernel
theorem dX0_goesBefore_50 : decode cX0_goesBefore 50 = .ok (.iload_n 2, 1) := by decide +kernel
theorem dX0_goesBefore_51 : decode cX0_goesBefore 51 = .ok (.iaload, 1) := by decide +kernel
theorem dX0_goesBefore_52 : decode cX0_goesBefore 52 = .ok (.if_icmp .eq 24, 3) := by decide +kernel
theorem dX0_goesBefore_55 : decode cX0_goesBefore 55 = .ok (.aload_n 0, 1) := by decide +kernel
theorem dX0_goesBefore_56 : decode cX0_goesBefore 56 = .ok (.getfield 31, 3) := by decide +kernel
theorem dX0_goesBefore_59 : decode cX0_goesBefore 59 = .ok (.iload_n 1, 1) := by decide +kernel
theorem dX0_goesBefore_60 : decode cX0_goesBefore 60 = .ok (.iaload, 1) := by decide +kernel
theorem dX0_goesBefore_61 : decode cX0_goesBefore 61 = .ok (.aload_n 0, 1) := by decide +kernel
theorem dX0_goesBefore_62 : decode cX0_goesBefore 62 = .ok (.getfield 31, 3) := by decide +kernel
theorem dX0_goesBefore_65 : decode cX0_goesBefore 65 = .ok (.iload_n 2, 1) := by decide +kernel
theorem dX0_goesBefore_66 : decode cX0_goesBefore 66 = .ok (.iaload, 1) := by decide +kernel
theorem dX0_goesBefore_67 : decode cX0_goesBefore 67 = .ok (.if_icmp .le 7, 3) := by decide +kernel
theorem dX0_goesBefore_70 : decode cX0_goesBefore 70 = .ok (.iconst 1, 1) := by decide +kernel
theorem dX0_goesBefore_71 : decode cX0_goesBefore 71 = .ok (.goto 4, 3) := by decide +kernel
theorem dX0_goesBefore_74 : decode cX0_goesBefore 74 = .ok (.iconst 0, 1) := by decide +kernel
theorem dX0_goesBefore_75 : decode cX0_goesBefore 75 = .ok (.ireturn, 1) := by decide +kernel
theorem dX0_goesBefore_76 : decode cX0_goesBefore 76 = .ok (.iload_n 1, 1) := by decide +kernel
theorem dX0_goesBefore_77 : decode cX0_goesBefore 77 = .ok (.iload_n 2, 1) := by decide +kernel
theorem dX0_goesBefore_78 : decode cX0_goesBefore 78 = .ok (.if_icmp .ge 7, 3) := by decide +kernel
theorem dX0_goesBefore_81 : decode cX0_goesBefore 81 = .ok (.iconst 1, 1) := by decide +kernel
theorem dX0_goesBefore_82 : decode cX0_goesBefore 82 = .ok (.goto 4, 3) := by decide +kernel
theorem dX0_goesBefore_85 : decode cX0_goesBefore 85 = .ok (.iconst 0, 1) := by decide +kernel
theorem dX0_goesBefore_86 : decode cX0_goesBefore 86 = .ok (.ireturn, 1) := by decide +kernel
theorem dX1_init_0 : decode cX1_init 0 = .ok (.aload_n 0, 1) := by decide +kernel
theorem dX1_init_1 : decode cX1_init 1 = .ok (.invokespecial 3, 3) := by decide +kernel
theorem dX1_init_4 : decode cX1_init 4 = .ok (.aload_n 0, 1) := by decide +kernel
theorem dX1_init_5 : decode cX1_init 5 = .ok (.bipush 10, 2) := by decide +kernel
theorem dX1_init_7 : decode cX1_init 7 = .ok (.anewarray 9, 3) := by decide +kernel
theorem dX1_init_10 : decode cX1_init 10 = .ok (.putfield 11, 3) := by decide +kernel
theorem dX1_init_13 : decode cX1_init 13 = .ok (.iconst 0, 1) := by decide +kernel
theorem dX1_init_14 : decode cX1_init 14 = .ok (.istore_n 1, 1) := by decide +kernel
theorem dX1_init_15 : decode cX1_init 15 = .ok (.iload_n 1, 1) := by decide +kernel
theorem dX1_init_16 : decode cX1_init 16 = .ok (.bipush 10, 2) := by decide +kernel
theorem dX1_init_18 : decode cX1_init 18 = .ok (.if_icmp .ge 22, 3) := by decide +kernel
theorem dX1_init_21 : decode cX1_init 21 = .ok (.aload_n 0, 1) := by decide +kernel
theorem dX1_init_22 : decode cX1_init 22 = .ok (.getfield 11, 3) := by decide +kernel
theorem dX1_init_25 : decode cX1_init 25 = .ok (.iload_n 1, 1) := by decide +kernel
theorem dX1_init_26 : decode cX1_init 26 = .ok (.new 9, 3) := by decide +kernel
theorem dX1_init_29 : decode cX1_init 29 = .ok (.dup, 1) := by decide +kernel
theorem dX1_init_30 : decode cX1_init 30 = .ok (.invokespecial 17, 3) := by decide +kernel
theorem dX1_init_33 : decode cX1_init 33 = .ok (.aastore, 1) := by decide +kernel
theorem dX1_init_34 : decode cX1_init 34 = .ok (.iinc 1 1, 3) := by decide +kernel
theorem dX1_init_37 : decode cX1_init 37 = .ok (.goto (-22), 3) := by decide +kernel
theorem dX1_init_40 : decode cX1_init 40 = .ok (.return_, 1) := by decide +kernel
theorem dX1_remember_0 : decode cX1_remember 0 = .ok (.aload_n 0, 1) := by decide +kernel
theorem dX1_remember_1 : decode cX1_remember 1 = .ok (.getfield 11, 3) := by decide +kernel
theorem dX1_remember_4 : decode cX1_remember 4 = .ok (.aload_n 0, 1) := by decide +kernel
theorem dX1_remember_5 : decode cX1_remember 5 = .ok (.getfield 18, 3) := by decide +kernel
theorem dX1_remember_8 : decode cX1_remember 8 = .ok (.aaload, 1) := by decide +kernel
theorem dX1_remember_9 : decode cX1_remember 9 = .ok (.aload_n 1, 1) := by decide +kernel
theorem dX1_remember_10 : decode cX1_remember 10 = .ok (.invokevirtual 22, 3) := by decide +kernel
theorem dX1_remember_13 : decode cX1_remember 13 = .ok (.aload_n 0, 1) := by decide +kernel
theorem dX1_remember_14 : decode cX1_remember 14 = .ok (.aload_n 0, 1) := by decide +kernel
theorem dX1_remember_15 : decode cX1_remember 15 = .ok (.getfield 18, 3) := by decide +kernel
theorem dX1_remember_18 : decode cX1_remember 18 = .ok (.bipush 9, 2) := by decide +kernel
theorem dX1_remember_20 : decode cX1_remember 20 = .ok (.if_icmp .ge 12, 3) := by decide +kernel
theorem dX1_remember_23 : decode cX1_remember 23 = .ok (.aload_n 0, 1) := by decide +kernel
theorem dX1_remember_24 : decode cX1_remember 24 = .ok (.getfield 18, 3) := by decide +kernel
theorem dX1_remember_27 : decode cX1_remember 27 = .ok (.iconst 1, 1) := by decide +kernel
theorem dX1_remember_28 : decode cX1_remember 28 = .ok (.iadd, 1) := by decide +kernel
theorem dX1_remember_29 : decode cX1_remember 29 = .ok (.goto 4, 3) := by decide +kernel
theorem dX1_remember_32 : decode cX1_remember 32 = .ok (.iconst 0, 1) := by decide +kernel
theorem dX1_remember_33 : decode cX1_remember 33 = .ok (.putfield 18, 3) := by decide +kernel
theorem dX1_remember_36 : decode cX1_remember 36 = .ok (.aload_n 0, 1) := by decide +kernel
theorem dX1_remember_37 : decode cX1_remember 37 = .ok (.aload_n 0, 1) := by decide +kernel
theorem dX1_remember_38 : decode cX1_remember 38 = .ok (.getfield 26, 3) := by decide +kernel
theorem dX1_remember_41 : decode cX1_remember 41 = .ok (.iconst 1, 1) := by decide +kernel
theorem dX1_remember_42 : decode cX1_remember 42 = .ok (.iadd, 1) := by decide +kernel
theorem dX1_remember_43 : decode cX1_remember 43 = .ok (.bipush 10, 2) := by decide +kernel
theorem dX1_remember_45 : decode cX1_remember 45 = .ok (.invokestatic 29, 3) := by decide +kernel
theorem dX1_remember_48 : decode cX1_remember 48 = .ok (.putfield 26, 3) := by decide +kernel
theorem dX1_remember_51 : decode cX1_remember 51 = .ok (.return_, 1) := by decide +kernel
theorem dX1_giveBack_0 : decode cX1_giveBack 0 = .ok (.aload_n 0, 1) := by decide +kernel
theorem dX1_giveBack_1 : decode cX1_giveBack 1 = .ok (.aload_n 0, 1) := by decide +kernel
theorem dX1_giveBack_2 : decode cX1_giveBack 2 = .ok (.getfield 18, 3) := by decide +kernel
theorem dX1_giveBack_5 : decode cX1_giveBack 5 = .ok (.ifCond .le 12, 3) := by decide +kernel
theorem dX1_giveBack_8 : decode cX1_giveBack 8 = .ok (.aload_n 0, 1) := by decide +kernel
theorem dX1_giveBack_9 : decode cX1_giveBack 9 = .ok (.getfield 18, 3) := by decide +kernel
theorem dX1_giveBack_12 : decode cX1_giveBack 12 = .ok (.iconst 1, 1) := by decide +kernel
theorem dX1_giveBack_13 : decode cX1_giveBack 13 = .ok (.isub, 1) := by decide +kernel
theorem dX1_giveBack_14 : decode cX1_giveBack 14 = .ok (.goto 5, 3) := by decide +kernel
theorem dX1_giveBack_17 : decode cX1_giveBack 17 = .ok (.bipush 9, 2) := by decide +kernel
theorem dX1_giveBack_19 : decode cX1_giveBack 19 = .ok (.putfield 18, 3) := by decide +kernel
theorem dX1_giveBack_22 : decode cX1_giveBack 22 = .ok (.aload_n 1, 1) := by decide +kernel
theorem dX1_giveBack_23 : decode cX1_giveBack 23 = .ok (.aload_n 0, 1) := by decide +kernel
theorem dX1_giveBack_24 : decode cX1_giveBack 24 = .ok (.getfield 11, 3) := by decide +kernel
theorem dX1_giveBack_27 : decode cX1_giveBack 27 = .ok (.aload_n 0, 1) := by decide +kernel
theorem dX1_giveBack_28 : decode cX1_giveBack 28 = .ok (.getfield 18, 3) := by decide +kernel
theorem dX1_giveBack_31 : decode cX1_giveBack 31 = .ok (.aaload, 1) := by decide +kernel
theorem dX1_giveBack_32 : decode cX1_giveBack 32 = .ok (.invokevirtual 22, 3) := by decide +kernel
theorem dX1_giveBack_35 : decode cX1_giveBack 35 = .ok (.aload_n 0, 1) := by decide +kernel
theorem dX1_giveBack_36 : decode cX1_giveBack 36 = .ok (.aload_n 0, 1) := by decide +kernel
theorem dX1_giveBack_37 : decode cX1_giveBack 37 = .ok (.getfield 26, 3) := by decide +kernel
theorem dX1_giveBack_40 : decode cX1_giveBack 40 = .ok (.iconst 1, 1) := by decide +kernel
theorem dX1_giveBack_41 : decode cX1_giveBack 41 = .ok (.isub, 1) := by decide +kernel
theorem dX1_giveBack_42 : decode cX1_giveBack 42 = .ok (.iconst 0, 1) := by decide +kernel
theorem dX1_giveBack_43 : decode cX1_giveBack 43 = .ok (.invokestatic 35, 3) := by decide +kernel
theorem dX1_giveBack_46 : decode cX1_giveBack 46 = .ok (.putfield 26, 3) := by decide +kernel
theorem dX1_giveBack_49 : decode cX1_giveBack 49 = .ok (.return_, 1) := by decide +kernel
theorem dX2_init_0 : decode cX2_init 0 = .ok (.aload_n 0, 1) := by decide +kernel
theorem dX2_init_1 : decode cX2_init 1 = .ok (.invokespecial 3, 3) := by decide +kernel
theorem dX2_init_4 : decode cX2_init 4 = .ok (.aload_n 0, 1) := by decide +kernel
theorem dX2_init_5 : decode cX2_init 5 = .ok (.bipush 64, 2) := by decide +kernel
theorem dX2_init_7 : decode cX2_init 7 = .ok (.newarray .int, 2) := by decide +kernel
theorem dX2_init_9 : decode cX2_init 9 = .ok (.putfield 9, 3) := by decide +kernel
theorem dX2_init_12 : decode cX2_init 12 = .ok (.return_, 1) := by decide +kernel
theorem dX2_becomes_0 : decode cX2_becomes 0 = .ok (.aload_n 1, 1) := by decide +kernel
theorem dX2_becomes_1 : decode cX2_becomes 1 = .ok (.getfield 9, 3) := by decide +kernel
theorem dX2_becomes_4 : decode cX2_becomes 4 = .ok (.iconst 0, 1) := by decide +kernel
theorem dX2_becomes_5 : decode cX2_becomes 5 = .ok (.aload_n 0, 1) := by decide +kernel
theorem dX2_becomes_6 : decode cX2_becomes 6 = .ok (.getfield 9, 3) := by decide +kernel
theorem dX2_becomes_9 : decode cX2_becomes 9 = .ok (.iconst 0, 1) := by decide +kernel
theorem dX2_becomes_10 : decode cX2_becomes 10 = .ok (.aload_n 1, 1) := by decide +kernel
theorem dX2_becomes_11 : decode cX2_becomes 11 = .ok (.getfield 15, 3) := by decide +kernel
theorem dX2_becomes_14 : decode cX2_becomes 14 = .ok (.invokestatic 19, 3) := by decide +kernel
theorem dX2_becomes_17 : decode cX2_becomes 17 = .ok (.aload_n 0, 1) := by decide +kernel
theorem dX2_becomes_18 : decode cX2_becomes 18 = .ok (.aload_n 1, 1) := by decide +kernel
theorem dX2_becomes_19 : decode cX2_becomes 19 = .ok (.getfield 15, 3) := by decide +kernel
theorem dX2_becomes_22 : decode cX2_becomes 22 = .ok (.putfield 15, 3) := by decide +kernel
theorem dX2_becomes_25 : decode cX2_becomes 25 = .ok (.return_, 1) := by decide +kernel
theorem dX2_at_0 : decode cX2_at 0 = .ok (.iload_n 1, 1) := by decide +kernel
theorem dX2_at_1 : decode cX2_at 1 = .ok (.ifCond .lt 20, 3) := by decide +kernel
theorem dX2_at_4 : decode cX2_at 4 = .ok (.iload_n 1, 1) := by decide +kernel
theorem dX2_at_5 : decode cX2_at 5 = .ok (.aload_n 0, 1) := by decide +kernel
theorem dX2_at_6 : decode cX2_at 6 = .ok (.getfield 15, 3) := by decide +kernel
theorem dX2_at_9 : decode cX2_at 9 = .ok (.if_icmp .ge 12, 3) := by decide +kernel
theorem dX2_at_12 : decode cX2_at 12 = .ok (.aload_n 0, 1) := by decide +kernel
theorem dX2_at_13 : decode cX2_at 13 = .ok (.getfield 9, 3) := by decide +kernel
theorem dX2_at_16 : decode cX2_at 16 = .ok (.iload_n 1, 1) := by decide +kernel
theorem dX2_at_17 : decode cX2_at 17 = .ok (.iaload, 1) := by decide +kernel
theorem dX2_at_18 : decode cX2_at 18 = .ok (.goto 5, 3) := by decide +kernel
theorem dX2_at_21 : decode cX2_at 21 = .ok (.bipush (-9), 2) := by decide +kernel
theorem dX2_at_23 : decode cX2_at 23 = .ok (.ireturn, 1) := by decide +kernel
theorem dX2_add_0 : decode cX2_add 0 = .ok (.aload_n 0, 1) := by decide +kernel
theorem dX2_add_1 : decode cX2_add 1 = .ok (.getfield 15, 3) := by decide +kernel
theorem dX2_add_4 : decode cX2_add 4 = .ok (.bipush 64, 2) := by decide +kernel
theorem dX2_add_6 : decode cX2_add 6 = .ok (.if_icmp .ge 23, 3) := by decide +kernel
theorem dX2_add_9 : decode cX2_add 9 = .ok (.aload_n 0, 1) := by decide +kernel
theorem dX2_add_10 : decode cX2_add 10 = .ok (.getfield 9, 3) := by decide +kernel
theorem dX2_add_13 : decode cX2_add 13 = .ok (.aload_n 0, 1) := by decide +kernel
theorem dX2_add_14 : decode cX2_add 14 = .ok (.getfield 15, 3) := by decide +kernel
theorem dX2_add_17 : decode cX2_add 17 = .ok (.iload_n 1, 1) := by decide +kernel
theorem dX2_add_18 : decode cX2_add 18 = .ok (.iastore, 1) := by decide +kernel
theorem dX2_add_19 : decode cX2_add 19 = .ok (.aload_n 0, 1) := by decide +kernel
theorem dX2_add_20 : decode cX2_add 20 = .ok (.dup, 1) := by decide +kernel
theorem dX2_add_21 : decode cX2_add 21 = .ok (.getfield 15, 3) := by decide +kernel
theorem dX2_add_24 : decode cX2_add 24 = .ok (.iconst 1, 1) := by decide +kernel
theorem dX2_add_25 : decode cX2_add 25 = .ok (.iadd, 1) := by decide +kernel
theorem dX2_add_26 : decode cX2_add 26 = .ok (.putfield 15, 3) := by decide +kernel
theorem dX2_add_29 : decode cX2_add 29 = .ok (.return_, 1) := by decide +kernel
theorem dX2_addInOrder_0 : decode cX2_addInOrder 0 = .ok (.aload_n 0, 1) := by decide +kernel
theorem dX2_addInOrder_1 : decode cX2_addInOrder 1 = .ok (.getfield 15, 3) := by decide +kernel
theorem dX2_addInOrder_4 : decode cX2_addInOrder 4 = .ok (.bipush 64, 2) := by decide +kernel
theorem dX2_addInOrder_6 : decode cX2_addInOrder 6 = .ok (.if_icmp .lt 4, 3) := by decide +kernel
theorem dX2_addInOrder_9 : decode cX2_addInOrder 9 = .ok (.return_, 1) := by decide +kernel
theorem dX2_addInOrder_10 : decode cX2_addInOrder 10 = .ok (.aload_n 0, 1) := by decide +kernel
theorem dX2_addInOrder_11 : decode cX2_addInOrder 11 = .ok (.getfield 15, 3) := by decide +kernel
theorem dX2_addInOrder_14 : decode cX2_addInOrder 14 = .ok (.istore 4, 2) := by decide +kernel
theorem dX2_addInOrder_16 : decode cX2_addInOrder 16 = .ok (.iload 4, 2) := by decide +kernel
theorem dX2_addInOrder_18 : decode cX2_addInOrder 18 = .ok (.ifCond .le 43, 3) := by decide +kernel
theorem dX2_addInOrder_21 : decode cX2_addInOrder 21 = .ok (.aload_n 2, 1) := by decide +kernel
theorem dX2_addInOrder_22 : decode cX2_addInOrder 22 = .ok (.iload_n 1, 1) := by decide +kernel
theorem dX2_addInOrder_23 : decode cX2_addInOrder 23 = .ok (.aload_n 0, 1) := by decide +kernel
theorem dX2_addInOrder_24 : decode cX2_addInOrder 24 = .ok (.getfield 9, 3) := by decide +kernel
theorem dX2_addInOrder_27 : decode cX2_addInOrder 27 = .ok (.iload 4, 2) := by decide +kernel
theorem dX2_addInOrder_29 : decode cX2_addInOrder 29 = .ok (.iconst 1, 1) := by decide +kernel
theorem dX2_addInOrder_30 : decode cX2_addInOrder 30 = .ok (.isub, 1) := by decide +kernel
theorem dX2_addInOrder_31 : decode cX2_addInOrder 31 = .ok (.iaload, 1) := by decide +kernel
theorem dX2_addInOrder_32 : decode cX2_addInOrder 32 = .ok (.iload_n 3, 1) := by decide +kernel
theorem dX2_addInOrder_33 : decode cX2_addInOrder 33 = .ok (.invokevirtual 25, 3) := by decide +kernel
theorem dX2_addInOrder_36 : decode cX2_addInOrder 36 = .ok (.ifCond .eq 25, 3) := by decide +kernel
theorem dX2_addInOrder_39 : decode cX2_addInOrder 39 = .ok (.aload_n 0, 1) := by decide +kernel
theorem dX2_addInOrder_40 : decode cX2_addInOrder 40 = .ok (.getfield 9, 3) := by decide +kernel
theorem dX2_addInOrder_43 : decode cX2_addInOrder 43 = .ok (.iload 4, 2) := by decide +kernel
theorem dX2_addInOrder_45 : decode cX2_addInOrder 45 = .ok (.aload_n 0, 1) := by decide +kernel
theorem dX2_addInOrder_46 : decode cX2_addInOrder 46 = .ok (.getfield 9, 3) := by decide +kernel
theorem dX2_addInOrder_49 : decode cX2_addInOrder 49 = .ok (.iload 4, 2) := by decide +kernel
theorem dX2_addInOrder_51 : decode cX2_addInOrder 51 = .ok (.iconst 1, 1) := by decide +kernel
theorem dX2_addInOrder_52 : decode cX2_addInOrder 52 = .ok (.isub, 1) := by decide +kernel
theorem dX2_addInOrder_53 : decode cX2_addInOrder 53 = .ok (.iaload, 1) := by decide +kernel
theorem dX2_addInOrder_54 : decode cX2_addInOrder 54 = .ok (.iastore, 1) := by decide +kernel
theorem dX2_addInOrder_55 : decode cX2_addInOrder 55 = .ok (.iinc 4 (-1), 3) := by decide +kernel
theorem dX2_addInOrder_58 : decode cX2_addInOrder 58 = .ok (.goto (-42), 3) := by decide +kernel
theorem dX2_addInOrder_61 : decode cX2_addInOrder 61 = .ok (.aload_n 0, 1) := by decide +kernel
theorem dX2_addInOrder_62 : decode cX2_addInOrder 62 = .ok (.getfield 9, 3) := by decide +kernel
theorem dX2_addInOrder_65 : decode cX2_addInOrder 65 = .ok (.iload 4, 2) := by decide +kernel
theorem dX2_addInOrder_67 : decode cX2_addInOrder 67 = .ok (.iload_n 1, 1) := by decide +kernel
theorem dX2_addInOrder_68 : decode cX2_addInOrder 68 = .ok (.iastore, 1) := by decide +kernel
theorem dX2_addInOrder_69 : decode cX2_addInOrder 69 = .ok (.aload_n 0, 1) := by decide +kernel
theorem dX2_addInOrder_70 : decode cX2_addInOrder 70 = .ok (.dup, 1) := by decide +kernel
theorem dX2_addInOrder_71 : decode cX2_addInOrder 71 = .ok (.getfield 15, 3) := by decide +kernel
theorem dX2_addInOrder_74 : decode cX2_addInOrder 74 = .ok (.iconst 1, 1) := by decide +kernel
theorem dX2_addInOrder_75 : decode cX2_addInOrder 75 = .ok (.iadd, 1) := by decide +kernel
theorem dX2_addInOrder_76 : decode cX2_addInOrder 76 = .ok (.putfield 15, 3) := by decide +kernel
theorem dX2_addInOrder_79 : decode cX2_addInOrder 79 = .ok (.return_, 1) := by decide +kernel
theorem dX3_init_0 : decode cX3_init 0 = .ok (.aload_n 0, 1) := by decide +kernel
theorem dX3_init_1 : decode cX3_init 1 = .ok (.invokespecial 3, 3) := by decide +kernel
theorem dX3_init_4 : decode cX3_init 4 = .ok (.aload_n 0, 1) := by decide +kernel
theorem dX3_init_5 : decode cX3_init 5 = .ok (.bipush 6, 2) := by decide +kernel
theorem dX3_init_7 : decode cX3_init 7 = .ok (.newarray .int, 2) := by decide +kernel
theorem dX3_init_9 : decode cX3_init 9 = .ok (.putfield 9, 3) := by decide +kernel
theorem dX3_init_12 : decode cX3_init 12 = .ok (.aload_n 0, 1) := by decide +kernel
theorem dX3_init_13 : decode cX3_init 13 = .ok (.bipush 6, 2) := by decide +kernel
theorem dX3_init_15 : decode cX3_init 15 = .ok (.newarray .int, 2) := by decide +kernel
theorem dX3_init_17 : decode cX3_init 17 = .ok (.putfield 15, 3) := by decide +kernel
theorem dX3_init_20 : decode cX3_init 20 = .ok (.return_, 1) := by decide +kernel
theorem dX3_add_0 : decode cX3_add 0 = .ok (.aload_n 0, 1) := by decide +kernel
theorem dX3_add_1 : decode cX3_add 1 = .ok (.getfield 18, 3) := by decide +kernel
theorem dX3_add_4 : decode cX3_add 4 = .ok (.bipush 6, 2) := by decide +kernel
theorem dX3_add_6 : decode cX3_add 6 = .ok (.if_icmp .ge 33, 3) := by decide +kernel
theorem dX3_add_9 : decode cX3_add 9 = .ok (.aload_n 0, 1) := by decide +kernel
theorem dX3_add_10 : decode cX3_add 10 = .ok (.getfield 9, 3) := by decide +kernel
theorem dX3_add_13 : decode cX3_add 13 = .ok (.aload_n 0, 1) := by decide +kernel
theorem dX3_add_14 : decode cX3_add 14 = .ok (.getfield 18, 3) := by decide +kernel
theorem dX3_add_17 : decode cX3_add 17 = .ok (.iload_n 1, 1) := by decide +kernel
theorem dX3_add_18 : decode cX3_add 18 = .ok (.iastore, 1) := by decide +kernel
theorem dX3_add_19 : decode cX3_add 19 = .ok (.aload_n 0, 1) := by decide +kernel
theorem dX3_add_20 : decode cX3_add 20 = .ok (.getfield 15, 3) := by decide +kernel
theorem dX3_add_23 : decode cX3_add 23 = .ok (.aload_n 0, 1) := by decide +kernel
theorem dX3_add_24 : decode cX3_add 24 = .ok (.getfield 18, 3) := by decide +kernel
theorem dX3_add_27 : decode cX3_add 27 = .ok (.iload_n 2, 1) := by decide +kernel
theorem dX3_add_28 : decode cX3_add 28 = .ok (.iastore, 1) := by decide +kernel
theorem dX3_add_29 : decode cX3_add 29 = .ok (.aload_n 0, 1) := by decide +kernel
theorem dX3_add_30 : decode cX3_add 30 = .ok (.dup, 1) := by decide +kernel
theorem dX3_add_31 : decode cX3_add 31 = .ok (.getfield 18, 3) := by decide +kernel
theorem dX3_add_34 : decode cX3_add 34 = .ok (.iconst 1, 1) := by decide +kernel
theorem dX3_add_35 : decode cX3_add 35 = .ok (.iadd, 1) := by decide +kernel
theorem dX3_add_36 : decode cX3_add 36 = .ok (.putfield 18, 3) := by decide +kernel
theorem dX3_add_39 : decode cX3_add 39 = .ok (.return_, 1) := by decide +kernel
theorem dX3_longest_0 : decode cX3_longest 0 = .ok (.iconst 0, 1) := by decide +kernel
theorem dX3_longest_1 : decode cX3_longest 1 = .ok (.istore_n 1, 1) := by decide +kernel
theorem dX3_longest_2 : decode cX3_longest 2 = .ok (.iconst 0, 1) := by decide +kernel
theorem dX3_longest_3 : decode cX3_longest 3 = .ok (.istore_n 2, 1) := by decide +kernel
theorem dX3_longest_4 : decode cX3_longest 4 = .ok (.iload_n 2, 1) := by decide +kernel
theorem dX3_longest_5 : decode cX3_longest 5 = .ok (.aload_n 0, 1) := by decide +kernel
theorem dX3_longest_6 : decode cX3_longest 6 = .ok (.getfield 18, 3) := by decide +kernel
theorem dX3_longest_9 : decode cX3_longest 9 = .ok (.if_icmp .ge 20, 3) := by decide +kernel
theorem dX3_longest_12 : decode cX3_longest 12 = .ok (.iload_n 1, 1) := by decide +kernel
theorem dX3_longest_13 : decode cX3_longest 13 = .ok (.aload_n 0, 1) := by decide +kernel
theorem dX3_longest_14 : decode cX3_longest 14 = .ok (.getfield 9, 3) := by decide +kernel
theorem dX3_longest_17 : decode cX3_longest 17 = .ok (.iload_n 2, 1) := by decide +kernel
theorem dX3_longest_18 : decode cX3_longest 18 = .ok (.iaload, 1) := by decide +kernel
theorem dX3_longest_19 : decode cX3_longest 19 = .ok (.invokestatic 22, 3) := by decide +kernel
theorem dX3_longest_22 : decode cX3_longest 22 = .ok (.istore_n 1, 1) := by decide +kernel
theorem dX3_longest_23 : decode cX3_longest 23 = .ok (.iinc 2 1, 3) := by decide +kernel
theorem dX3_longest_26 : decode cX3_longest 26 = .ok (.goto (-22), 3) := by decide +kernel
theorem dX3_longest_29 : decode cX3_longest 29 = .ok (.iload_n 1, 1) := by decide +kernel
theorem dX3_longest_30 : decode cX3_longest 30 = .ok (.ireturn, 1) := by decide +kernel
theorem dX3_allows_0 : decode cX3_allows 0 = .ok (.iconst 0, 1) := by decide +kernel
theorem dX3_allows_1 : decode cX3_allows 1 = .ok (.istore_n 3, 1) := by decide +kernel
theorem dX3_allows_2 : decode cX3_allows 2 = .ok (.iload_n 3, 1) := by decide +kernel
theorem dX3_allows_3 : decode cX3_allows 3 = .ok (.aload_n 0, 1) := by decide +kernel
theorem dX3_allows_4 : decode cX3_allows 4 = .ok (.getfield 18, 3) := by decide +kernel
theorem dX3_allows_7 : decode cX3_allows 7 = .ok (.if_icmp .ge 31, 3) := by decide +kernel
theorem dX3_allows_10 : decode cX3_allows 10 = .ok (.aload_n 0, 1) := by decide +kernel
theorem dX3_allows_11 : decode cX3_allows 11 = .ok (.getfield 9, 3) := by decide +kernel
theorem dX3_allows_14 : decode cX3_allows 14 = .ok (.iload_n 3, 1) := by decide +kernel
theorem dX3_allows_15 : decode cX3_allows 15 = .ok (.iaload, 1) := by decide +kernel
theorem dX3_allows_16 : decode cX3_allows 16 = .ok (.iload_n 1, 1) := by decide +kernel
theorem dX3_allows_17 : decode cX3_allows 17 = .ok (.if_icmp .ne 15, 3) := by decide +kernel
theorem dX3_allows_20 : decode cX3_allows 20 = .ok (.aload_n 0, 1) := by decide +kernel
theorem dX3_allows_21 : decode cX3_allows 21 = .ok (.getfield 15, 3) := by decide +kernel
theorem dX3_allows_24 : decode cX3_allows 24 = .ok (.iload_n 3, 1) := by decide +kernel
theorem dX3_allows_25 : decode cX3_allows 25 = .ok (.iaload, 1) := by decide +kernel
theorem dX3_allows_26 : decode cX3_allows 26 = .ok (.iload_n 2, 1) := by decide +kernel
theorem dX3_allows_27 : decode cX3_allows 27 = .ok (.if_icmp .eq 5, 3) := by decide +kernel
theorem dX3_allows_30 : decode cX3_allows 30 = .ok (.iconst 0, 1) := by decide +kernel
theorem dX3_allows_31 : decode cX3_allows 31 = .ok (.ireturn, 1) := by decide +kernel
theorem dX3_allows_32 : decode cX3_allows 32 = .ok (.iinc 3 1, 3) := by decide +kernel
theorem dX3_allows_35 : decode cX3_allows 35 = .ok (.goto (-33), 3) := by decide +kernel
theorem dX3_allows_38 : decode cX3_allows 38 = .ok (.iconst 1, 1) := by decide +kernel
theorem dX3_allows_39 : decode cX3_allows 39 = .ok (.ireturn, 1) := by decide +kernel
theorem dX4_init_0 : decode cX4_init 0 = .ok (.aload_n 0, 1) := by decide +kernel
theorem dX4_init_1 : decode cX4_init 1 = .ok (.invokespecial 3, 3) := by decide +kernel
theorem dX4_init_4 : decode cX4_init 4 = .ok (.aload_n 0, 1) := by decide +kernel
theorem dX4_init_5 : decode cX4_init 5 = .ok (.new 9, 3) := by decide +kernel
theorem dX4_init_8 : decode cX4_init 8 = .ok (.dup, 1) := by decide +kernel
theorem dX4_init_9 : decode cX4_init 9 = .ok (.invokespecial 11, 3) := by decide +kernel
theorem dX4_init_12 : decode cX4_init 12 = .ok (.putfield 12, 3) := by decide +kernel
theorem dX4_init_15 : decode cX4_init 15 = .ok (.aload_n 0, 1) := by decide +kernel
theorem dX4_init_16 : decode cX4_init 16 = .ok (.new 9, 3) := by decide +kernel
theorem dX4_init_19 : decode cX4_init 19 = .ok (.dup, 1) := by decide +kernel
theorem dX4_init_20 : decode cX4_init 20 = .ok (.invokespecial 11, 3) := by decide +kernel
theorem dX4_init_23 : decode cX4_init 23 = .ok (.putfield 18, 3) := by decide +kernel
theorem dX4_init_26 : decode cX4_init 26 = .ok (.return_, 1) := by decide +kernel
theorem dX4_sortWaiting_0 : decode cX4_sortWaiting 0 = .ok (.aload_n 0, 1) := by decide +kernel
theorem dX4_sortWaiting_1 : decode cX4_sortWaiting 1 = .ok (.getfield 12, 3) := by decide +kernel
theorem dX4_sortWaiting_4 : decode cX4_sortWaiting 4 = .ok (.iconst 0, 1) := by decide +kernel
theorem dX4_sortWaiting_5 : decode cX4_sortWaiting 5 = .ok (.putfield 21, 3) := by decide +kernel
theorem dX4_sortWaiting_8 : decode cX4_sortWaiting 8 = .ok (.iconst 0, 1) := by decide +kernel
theorem dX4_sortWaiting_9 : decode cX4_sortWaiting 9 = .ok (.istore_n 2, 1) := by decide +kernel
theorem dX4_sortWaiting_10 : decode cX4_sortWaiting 10 = .ok (.iload_n 2, 1) := by decide +kernel
theorem dX4_sortWaiting_11 : decode cX4_sortWaiting 11 = .ok (.aload_n 1, 1) := by decide +kernel
theorem dX4_sortWaiting_12 : decode cX4_sortWaiting 12 = .ok (.getfield 25, 3) := by decide +kernel
theorem dX4_sortWaiting_15 : decode cX4_sortWaiting 15 = .ok (.if_icmp .ge 38, 3) := by decide +kernel
theorem dX4_sortWaiting_18 : decode cX4_sortWaiting 18 = .ok (.aload_n 1, 1) := by decide +kernel
theorem dX4_sortWaiting_19 : decode cX4_sortWaiting 19 = .ok (.getfield 30, 3) := by decide +kernel
theorem dX4_sortWaiting_22 : decode cX4_sortWaiting 22 = .ok (.iload_n 2, 1) := by decide +kernel
theorem dX4_sortWaiting_23 : decode cX4_sortWaiting 23 = .ok (.iaload, 1) := by decide +kernel
theorem dX4_sortWaiting_24 : decode cX4_sortWaiting 24 = .ok (.ifCond .eq 13, 3) := by decide +kernel
theorem dX4_sortWaiting_27 : decode cX4_sortWaiting 27 = .ok (.aload_n 1, 1) := by decide +kernel
theorem dX4_sortWaiting_28 : decode cX4_sortWaiting 28 = .ok (.getfield 30, 3) := by decide +kernel
theorem dX4_sortWaiting_31 : decode cX4_sortWaiting 31 = .ok (.iload_n 2, 1) := by decide +kernel
theorem dX4_sortWaiting_32 : decode cX4_sortWaiting 32 = .ok (.iaload, 1) := by decide +kernel
theorem dX4_sortWaiting_33 : decode cX4_sortWaiting 33 = .ok (.iconst 1, 1) := by decide +kernel
theorem dX4_sortWaiting_34 : decode cX4_sortWaiting 34 = .ok (.if_icmp .ne 13, 3) := by decide +kernel
theorem dX4_sortWaiting_37 : decode cX4_sortWaiting 37 = .ok (.aload_n 0, 1) := by decide +kernel
theorem dX4_sortWaiting_38 : decode cX4_sortWaiting 38 = .ok (.getfield 12, 3) := by decide +kernel
theorem dX4_sortWaiting_41 : decode cX4_sortWaiting 41 = .ok (.iload_n 2, 1) := by decide +kernel
theorem dX4_sortWaiting_42 : decode cX4_sortWaiting 42 = .ok (.aload_n 1, 1) := by decide +kernel
theorem dX4_sortWaiting_43 : decode cX4_sortWaiting 43 = .ok (.iconst 1, 1) := by decide +kernel
theorem dX4_sortWaiting_44 : decode cX4_sortWaiting 44 = .ok (.invokevirtual 34, 3) := by decide +kernel
theorem dX4_sortWaiting_47 : decode cX4_sortWaiting 47 = .ok (.iinc 2 1, 3) := by decide +kernel
theorem dX4_sortWaiting_50 : decode cX4_sortWaiting 50 = .ok (.goto (-40), 3) := by decide +kernel
theorem dX4_sortWaiting_53 : decode cX4_sortWaiting 53 = .ok (.aload_n 0, 1) := by decide +kernel
theorem dX4_sortWaiting_54 : decode cX4_sortWaiting 54 = .ok (.getfield 12, 3) := by decide +kernel
theorem dX4_sortWaiting_57 : decode cX4_sortWaiting 57 = .ok (.areturn, 1) := by decide +kernel
theorem dX4_sortTurned_0 : decode cX4_sortTurned 0 = .ok (.aload_n 0, 1) := by decide +kernel
theorem dX4_sortTurned_1 : decode cX4_sortTurned 1 = .ok (.getfield 12, 3) := by decide +kernel
theorem dX4_sortTurned_4 : decode cX4_sortTurned 4 = .ok (.iconst 0, 1) := by decide +kernel
theorem dX4_sortTurned_5 : decode cX4_sortTurned 5 = .ok (.putfield 21, 3) := by decide +kernel
theorem dX4_sortTurned_8 : decode cX4_sortTurned 8 = .ok (.iconst 0, 1) := by decide +kernel
theorem dX4_sortTurned_9 : decode cX4_sortTurned 9 = .ok (.istore_n 2, 1) := by decide +kernel
theorem dX4_sortTurned_10 : decode cX4_sortTurned 10 = .ok (.iload_n 2, 1) := by decide +kernel
theorem dX4_sortTurned_11 : decode cX4_sortTurned 11 = .ok (.aload_n 1, 1) := by decide +kernel
theorem dX4_sortTurned_12 : decode cX4_sortTurned 12 = .ok (.getfield 25, 3) := by decide +kernel
theorem dX4_sortTurned_15 : decode cX4_sortTurned 15 = .ok (.if_icmp .ge 29, 3) := by decide +kernel
theorem dX4_sortTurned_18 : decode cX4_sortTurned 18 = .ok (.aload_n 1, 1) := by decide +kernel
theorem dX4_sortTurned_19 : decode cX4_sortTurned 19 = .ok (.getfield 30, 3) := by decide +kernel
theorem dX4_sortTurned_22 : decode cX4_sortTurned 22 = .ok (.iload_n 2, 1) := by decide +kernel
theorem dX4_sortTurned_23 : decode cX4_sortTurned 23 = .ok (.iaload, 1) := by decide +kernel
theorem dX4_sortTurned_24 : decode cX4_sortTurned 24 = .ok (.iconst 1, 1) := by decide +kernel
theorem dX4_sortTurned_25 : decode cX4_sortTurned 25 = .ok (.if_icmp .ne 13, 3) := by decide +kernel
theorem dX4_sortTurned_28 : decode cX4_sortTurned 28 = .ok (.aload_n 0, 1) := by decide +kernel
theorem dX4_sortTurned_29 : decode cX4_sortTurned 29 = .ok (.getfield 12, 3) := by decide +kernel
theorem dX4_sortTurned_32 : decode cX4_sortTurned 32 = .ok (.iload_n 2, 1) := by decide +kernel
theorem dX4_sortTurned_33 : decode cX4_sortTurned 33 = .ok (.aload_n 1, 1) := by decide +kernel
theorem dX4_sortTurned_34 : decode cX4_sortTurned 34 = .ok (.iconst 0, 1) := by decide +kernel
theorem dX4_sortTurned_35 : decode cX4_sortTurned 35 = .ok (.invokevirtual 34, 3) := by decide +kernel
theorem dX4_sortTurned_38 : decode cX4_sortTurned 38 = .ok (.iinc 2 1, 3) := by decide +kernel
theorem dX4_sortTurned_41 : decode cX4_sortTurned 41 = .ok (.goto (-31), 3) := by decide +kernel
theorem dX4_sortTurned_44 : decode cX4_sortTurned 44 = .ok (.aload_n 0, 1) := by decide +kernel
theorem dX4_sortTurned_45 : decode cX4_sortTurned 45 = .ok (.getfield 12, 3) := by decide +kernel
theorem dX4_sortTurned_48 : decode cX4_sortTurned 48 = .ok (.areturn, 1) := by decide +kernel
theorem dX4_passSlot_0 : decode cX4_passSlot 0 = .ok (.aload_n 0, 1) := by decide +kernel
theorem dX4_passSlot_1 : decode cX4_passSlot 1 = .ok (.aload_n 1, 1) := by decide +kernel
theorem dX4_passSlot_2 : decode cX4_passSlot 2 = .ok (.invokevirtual 38, 3) := by decide +kernel
theorem dX4_passSlot_5 : decode cX4_passSlot 5 = .ok (.pop, 1) := by decide +kernel
theorem dX4_passSlot_6 : decode cX4_passSlot 6 = .ok (.aload_n 0, 1) := by decide +kernel
theorem dX4_passSlot_7 : decode cX4_passSlot 7 = .ok (.aload_n 1, 1) := by decide +kernel
theorem dX4_passSlot_8 : decode cX4_passSlot 8 = .ok (.invokevirtual 42, 3) := by decide +kernel
theorem dX4_passSlot_11 : decode cX4_passSlot 11 = .ok (.aload_n 0, 1) := by decide +kernel
theorem dX4_passSlot_12 : decode cX4_passSlot 12 = .ok (.aload_n 1, 1) := by decide +kernel
theorem dX4_passSlot_13 : decode cX4_passSlot 13 = .ok (.invokevirtual 46, 3) := by decide +kernel
theorem dX4_passSlot_16 : decode cX4_passSlot 16 = .ok (.aload_n 0, 1) := by decide +kernel
theorem dX4_passSlot_17 : decode cX4_passSlot 17 = .ok (.aload_n 1, 1) := by decide +kernel
theorem dX4_passSlot_18 : decode cX4_passSlot 18 = .ok (.invokevirtual 49, 3) := by decide +kernel
theorem dX4_passSlot_21 : decode cX4_passSlot 21 = .ok (.aload_n 1, 1) := by decide +kernel
theorem dX4_passSlot_22 : decode cX4_passSlot 22 = .ok (.dup, 1) := by decide +kernel
theorem dX4_passSlot_23 : decode cX4_passSlot 23 = .ok (.getfield 52, 3) := by decide +kernel
theorem dX4_passSlot_26 : decode cX4_passSlot 26 = .ok (.iconst 1, 1) := by decide +kernel
theorem dX4_passSlot_27 : decode cX4_passSlot 27 = .ok (.iadd, 1) := by decide +kernel
theorem dX4_passSlot_28 : decode cX4_passSlot 28 = .ok (.putfield 52, 3) := by decide +kernel
theorem dX4_passSlot_31 : decode cX4_passSlot 31 = .ok (.return_, 1) := by decide +kernel
theorem dX4_letWinnersIn_0 : decode cX4_letWinnersIn 0 = .ok (.aload_n 0, 1) := by decide +kernel
theorem dX4_letWinnersIn_1 : decode cX4_letWinnersIn 1 = .ok (.getfield 18, 3) := by decide +kernel
theorem dX4_letWinnersIn_4 : decode cX4_letWinnersIn 4 = .ok (.iconst 0, 1) := by decide +kernel
theorem dX4_letWinnersIn_5 : decode cX4_letWinnersIn 5 = .ok (.putfield 21, 3) := by decide +kernel
theorem dX4_letWinnersIn_8 : decode cX4_letWinnersIn 8 = .ok (.bipush (-9), 2) := by decide +kernel
theorem dX4_letWinnersIn_10 : decode cX4_letWinnersIn 10 = .ok (.istore_n 2, 1) := by decide +kernel
theorem dX4_letWinnersIn_11 : decode cX4_letWinnersIn 11 = .ok (.iconst 0, 1) := by decide +kernel
theorem dX4_letWinnersIn_12 : decode cX4_letWinnersIn 12 = .ok (.istore_n 3, 1) := by decide +kernel
theorem dX4_letWinnersIn_13 : decode cX4_letWinnersIn 13 = .ok (.iconst 0, 1) := by decide +kernel
theorem dX4_letWinnersIn_14 : decode cX4_letWinnersIn 14 = .ok (.istore 4, 2) := by decide +kernel
theorem dX4_letWinnersIn_16 : decode cX4_letWinnersIn 16 = .ok (.iload 4, 2) := by decide +kernel
theorem dX4_letWinnersIn_18 : decode cX4_letWinnersIn 18 = .ok (.aload_n 0, 1) := by decide +kernel
theorem dX4_letWinnersIn_19 : decode cX4_letWinnersIn 19 = .ok (.getfield 12, 3) := by decide +kernel
theorem dX4_letWinnersIn_22 : decode cX4_letWinnersIn 22 = .ok (.getfield 21, 3) := by decide +kernel
theorem dX4_letWinnersIn_25 : decode cX4_letWinnersIn 25 = .ok (.if_icmp .ge 100, 3) := by decide +kernel
theorem dX4_letWinnersIn_28 : decode cX4_letWinnersIn 28 = .ok (.aload_n 0, 1) := by decide +kernel
theorem dX4_letWinnersIn_29 : decode cX4_letWinnersIn 29 = .ok (.getfield 12, 3) := by decide +kernel
theorem dX4_letWinnersIn_32 : decode cX4_letWinnersIn 32 = .ok (.getfield 55, 3) := by decide +kernel
theorem dX4_letWinnersIn_35 : decode cX4_letWinnersIn 35 = .ok (.iload 4, 2) := by decide +kernel
theorem dX4_letWinnersIn_37 : decode cX4_letWinnersIn 37 = .ok (.iaload, 1) := by decide +kernel
theorem dX4_letWinnersIn_38 : decode cX4_letWinnersIn 38 = .ok (.istore 5, 2) := by decide +kernel
theorem dX4_letWinnersIn_40 : decode cX4_letWinnersIn 40 = .ok (.aload_n 1, 1) := by decide +kernel
theorem dX4_letWinnersIn_41 : decode cX4_letWinnersIn 41 = .ok (.getfield 58, 3) := by decide +kernel
theorem dX4_letWinnersIn_44 : decode cX4_letWinnersIn 44 = .ok (.iload 5, 2) := by decide +kernel
theorem dX4_letWinnersIn_46 : decode cX4_letWinnersIn 46 = .ok (.iaload, 1) := by decide +kernel
theorem dX4_letWinnersIn_47 : decode cX4_letWinnersIn 47 = .ok (.iload_n 2, 1) := by decide +kernel
theorem dX4_letWinnersIn_48 : decode cX4_letWinnersIn 48 = .ok (.if_icmp .ne 9, 3) := by decide +kernel
theorem dX4_letWinnersIn_51 : decode cX4_letWinnersIn 51 = .ok (.iload_n 3, 1) := by decide +kernel
theorem dX4_letWinnersIn_52 : decode cX4_letWinnersIn 52 = .ok (.iconst 1, 1) := by decide +kernel
theorem dX4_letWinnersIn_53 : decode cX4_letWinnersIn 53 = .ok (.iadd, 1) := by decide +kernel
theorem dX4_letWinnersIn_54 : decode cX4_letWinnersIn 54 = .ok (.goto 4, 3) := by decide +kernel
theorem dX4_letWinnersIn_57 : decode cX4_letWinnersIn 57 = .ok (.iconst 0, 1) := by decide +kernel
theorem dX4_letWinnersIn_58 : decode cX4_letWinnersIn 58 = .ok (.istore_n 3, 1) := by decide +kernel
theorem dX4_letWinnersIn_59 : decode cX4_letWinnersIn 59 = .ok (.aload_n 1, 1) := by decide +kernel
theorem dX4_letWinnersIn_60 : decode cX4_letWinnersIn 60 = .ok (.getfield 58, 3) := by decide +kernel
theorem dX4_letWinnersIn_63 : decode cX4_letWinnersIn 63 = .ok (.iload 5, 2) := by decide +kernel
theorem dX4_letWinnersIn_65 : decode cX4_letWinnersIn 65 = .ok (.iaload, 1) := by decide +kernel
theorem dX4_letWinnersIn_66 : decode cX4_letWinnersIn 66 = .ok (.istore_n 2, 1) := by decide +kernel
theorem dX4_letWinnersIn_67 : decode cX4_letWinnersIn 67 = .ok (.iload_n 3, 1) := by decide +kernel
theorem dX4_letWinnersIn_68 : decode cX4_letWinnersIn 68 = .ok (.aload_n 1, 1) := by decide +kernel
theorem dX4_letWinnersIn_69 : decode cX4_letWinnersIn 69 = .ok (.getfield 61, 3) := by decide +kernel
theorem dX4_letWinnersIn_72 : decode cX4_letWinnersIn 72 = .ok (.if_icmp .ge 36, 3) := by decide +kernel
theorem dX4_letWinnersIn_75 : decode cX4_letWinnersIn 75 = .ok (.aload_n 1, 1) := by decide +kernel
theorem dX4_letWinnersIn_76 : decode cX4_letWinnersIn 76 = .ok (.getfield 64, 3) := by decide +kernel
theorem dX4_letWinnersIn_79 : decode cX4_letWinnersIn 79 = .ok (.getfield 21, 3) := by decide +kernel
theorem dX4_letWinnersIn_82 : decode cX4_letWinnersIn 82 = .ok (.aload_n 1, 1) := by decide +kernel
theorem dX4_letWinnersIn_83 : decode cX4_letWinnersIn 83 = .ok (.getfield 67, 3) := by decide +kernel
theorem dX4_letWinnersIn_86 : decode cX4_letWinnersIn 86 = .ok (.if_icmp .ge 22, 3) := by decide +kernel
theorem dX4_letWinnersIn_89 : decode cX4_letWinnersIn 89 = .ok (.aload_n 1, 1) := by decide +kernel
theorem dX4_letWinnersIn_90 : decode cX4_letWinnersIn 90 = .ok (.getfield 64, 3) := by decide +kernel
theorem dX4_letWinnersIn_93 : decode cX4_letWinnersIn 93 = .ok (.iload 5, 2) := by decide +kernel
theorem dX4_letWinnersIn_95 : decode cX4_letWinnersIn 95 = .ok (.invokevirtual 70, 3) := by decide +kernel
theorem dX4_letWinnersIn_98 : decode cX4_letWinnersIn 98 = .ok (.aload_n 1, 1) := by decide +kernel
theorem dX4_letWinnersIn_99 : decode cX4_letWinnersIn 99 = .ok (.iload 5, 2) := by decide +kernel
theorem dX4_letWinnersIn_101 : decode cX4_letWinnersIn 101 = .ok (.iconst 2, 1) := by decide +kernel
theorem dX4_letWinnersIn_102 : decode cX4_letWinnersIn 102 = .ok (.invokevirtual 74, 3) := by decide +kernel
theorem dX4_letWinnersIn_105 : decode cX4_letWinnersIn 105 = .ok (.goto 14, 3) := by decide +kernel
theorem dX4_letWinnersIn_108 : decode cX4_letWinnersIn 108 = .ok (.aload_n 0, 1) := by decide +kernel
theorem dX4_letWinnersIn_109 : decode cX4_letWinnersIn 109 = .ok (.getfield 18, 3) := by decide +kernel
theorem dX4_letWinnersIn_112 : decode cX4_letWinnersIn 112 = .ok (.iload 5, 2) := by decide +kernel
theorem dX4_letWinnersIn_114 : decode cX4_letWinnersIn 114 = .ok (.aload_n 1, 1) := by decide +kernel
theorem dX4_letWinnersIn_115 : decode cX4_letWinnersIn 115 = .ok (.iconst 0, 1) := by decide +kernel
theorem dX4_letWinnersIn_116 : decode cX4_letWinnersIn 116 = .ok (.invokevirtual 34, 3) := by decide +kernel
theorem dX4_letWinnersIn_119 : decode cX4_letWinnersIn 119 = .ok (.iinc 4 1, 3) := by decide +kernel
theorem dX4_letWinnersIn_122 : decode cX4_letWinnersIn 122 = .ok (.goto (-106), 3) := by decide +kernel
theorem dX4_letWinnersIn_125 : decode cX4_letWinnersIn 125 = .ok (.return_, 1) := by decide +kernel
theorem dX4_turnBackBeaten_0 : decode cX4_turnBackBeaten 0 = .ok (.iconst 0, 1) := by decide +kernel
theorem dX4_turnBackBeaten_1 : decode cX4_turnBackBeaten 1 = .ok (.istore_n 2, 1) := by decide +kernel
theorem dX4_turnBackBeaten_2 : decode cX4_turnBackBeaten 2 = .ok (.iload_n 2, 1) := by decide +kernel
theorem dX4_turnBackBeaten_3 : decode cX4_turnBackBeaten 3 = .ok (.aload_n 0, 1) := by decide +kernel
theorem dX4_turnBackBeaten_4 : decode cX4_turnBackBeaten 4 = .ok (.getfield 18, 3) := by decide +kernel
theorem dX4_turnBackBeaten_7 : decode cX4_turnBackBeaten 7 = .ok (.getfield 21, 3) := by decide +kernel
theorem dX4_turnBackBeaten_10 : decode cX4_turnBackBeaten 10 = .ok (.if_icmp .ge 53, 3) := by decide +kernel
theorem dX4_turnBackBeaten_13 : decode cX4_turnBackBeaten 13 = .ok (.aload_n 0, 1) := by decide +kernel
theorem dX4_turnBackBeaten_14 : decode cX4_turnBackBeaten 14 = .ok (.getfield 18, 3) := by decide +kernel
theorem dX4_turnBackBeaten_17 : decode cX4_turnBackBeaten 17 = .ok (.getfield 55, 3) := by decide +kernel
theorem dX4_turnBackBeaten_20 : decode cX4_turnBackBeaten 20 = .ok (.iload_n 2, 1) := by decide +kernel
theorem dX4_turnBackBeaten_21 : decode cX4_turnBackBeaten 21 = .ok (.iaload, 1) := by decide +kernel
theorem dX4_turnBackBeaten_22 : decode cX4_turnBackBeaten 22 = .ok (.istore_n 3, 1) := by decide +kernel
theorem dX4_turnBackBeaten_23 : decode cX4_turnBackBeaten 23 = .ok (.iload_n 2, 1) := by decide +kernel
theorem dX4_turnBackBeaten_24 : decode cX4_turnBackBeaten 24 = .ok (.aload_n 1, 1) := by decide +kernel
theorem dX4_turnBackBeaten_25 : decode cX4_turnBackBeaten 25 = .ok (.getfield 78, 3) := by decide +kernel
theorem dX4_turnBackBeaten_28 : decode cX4_turnBackBeaten 28 = .ok (.if_icmp .ge 22, 3) := by decide +kernel
theorem dX4_turnBackBeaten_31 : decode cX4_turnBackBeaten 31 = .ok (.aload_n 1, 1) := by decide +kernel
theorem dX4_turnBackBeaten_32 : decode cX4_turnBackBeaten 32 = .ok (.iload_n 3, 1) := by decide +kernel
theorem dX4_turnBackBeaten_33 : decode cX4_turnBackBeaten 33 = .ok (.iconst 1, 1) := by decide +kernel
theorem dX4_turnBackBeaten_34 : decode cX4_turnBackBeaten 34 = .ok (.invokevirtual 74, 3) := by decide +kernel
theorem dX4_turnBackBeaten_37 : decode cX4_turnBackBeaten 37 = .ok (.aload_n 1, 1) := by decide +kernel
theorem dX4_turnBackBeaten_38 : decode cX4_turnBackBeaten 38 = .ok (.getfield 81, 3) := by decide +kernel
theorem dX4_turnBackBeaten_41 : decode cX4_turnBackBeaten 41 = .ok (.iload_n 3, 1) := by decide +kernel
theorem dX4_turnBackBeaten_42 : decode cX4_turnBackBeaten 42 = .ok (.dup2, 1) := by decide +kernel
theorem dX4_turnBackBeaten_43 : decode cX4_turnBackBeaten 43 = .ok (.iaload, 1) := by decide +kernel
theorem dX4_turnBackBeaten_44 : decode cX4_turnBackBeaten 44 = .ok (.iconst 1, 1) := by decide +kernel
theorem dX4_turnBackBeaten_45 : decode cX4_turnBackBeaten 45 = .ok (.iadd, 1) := by decide +kernel
theorem dX4_turnBackBeaten_46 : decode cX4_turnBackBeaten 46 = .ok (.iastore, 1) := by decide +kernel
theorem dX4_turnBackBeaten_47 : decode cX4_turnBackBeaten 47 = .ok (.goto 10, 3) := by decide +kernel
theorem dX4_turnBackBeaten_50 : decode cX4_turnBackBeaten 50 = .ok (.aload_n 0, 1) := by decide +kernel
theorem dX4_turnBackBeaten_51 : decode cX4_turnBackBeaten 51 = .ok (.aload_n 1, 1) := by decide +kernel
theorem dX4_turnBackBeaten_52 : decode cX4_turnBackBeaten 52 = .ok (.iload_n 3, 1) := by decide +kernel
theorem dX4_turnBackBeaten_53 : decode cX4_turnBackBeaten 53 = .ok (.iconst 4, 1) := by decide +kernel
theorem dX4_turnBackBeaten_54 : decode cX4_turnBackBeaten 54 = .ok (.invokevirtual 84, 3) := by decide +kernel
theorem dX4_turnBackBeaten_57 : decode cX4_turnBackBeaten 57 = .ok (.iinc 2 1, 3) := by decide +kernel
theorem dX4_turnBackBeaten_60 : decode cX4_turnBackBeaten 60 = .ok (.goto (-58), 3) := by decide +kernel
theorem dX4_turnBackBeaten_63 : decode cX4_turnBackBeaten 63 = .ok (.return_, 1) := by decide +kernel
theorem dX4_letFirstsOut_0 : decode cX4_letFirstsOut 0 = .ok (.aload_n 1, 1) := by decide +kernel
theorem dX4_letFirstsOut_1 : decode cX4_letFirstsOut 1 = .ok (.getfield 64, 3) := by decide +kernel
theorem dX4_letFirstsOut_4 : decode cX4_letFirstsOut 4 = .ok (.astore_n 2, 1) := by decide +kernel
theorem dX4_letFirstsOut_5 : decode cX4_letFirstsOut 5 = .ok (.iconst 0, 1) := by decide +kernel
theorem dX4_letFirstsOut_6 : decode cX4_letFirstsOut 6 = .ok (.istore_n 3, 1) := by decide +kernel
theorem dX4_letFirstsOut_7 : decode cX4_letFirstsOut 7 = .ok (.iconst 0, 1) := by decide +kernel
theorem dX4_letFirstsOut_8 : decode cX4_letFirstsOut 8 = .ok (.istore 4, 2) := by decide +kernel
theorem dX4_letFirstsOut_10 : decode cX4_letFirstsOut 10 = .ok (.iconst 0, 1) := by decide +kernel
theorem dX4_letFirstsOut_11 : decode cX4_letFirstsOut 11 = .ok (.istore 5, 2) := by decide +kernel
theorem dX4_letFirstsOut_13 : decode cX4_letFirstsOut 13 = .ok (.iload 5, 2) := by decide +kernel
theorem dX4_letFirstsOut_15 : decode cX4_letFirstsOut 15 = .ok (.aload_n 2, 1) := by decide +kernel
theorem dX4_letFirstsOut_16 : decode cX4_letFirstsOut 16 = .ok (.getfield 21, 3) := by decide +kernel
theorem dX4_letFirstsOut_19 : decode cX4_letFirstsOut 19 = .ok (.if_icmp .ge 64, 3) := by decide +kernel
theorem dX4_letFirstsOut_22 : decode cX4_letFirstsOut 22 = .ok (.aload_n 2, 1) := by decide +kernel
theorem dX4_letFirstsOut_23 : decode cX4_letFirstsOut 23 = .ok (.getfield 55, 3) := by decide +kernel
theorem dX4_letFirstsOut_26 : decode cX4_letFirstsOut 26 = .ok (.iload 5, 2) := by decide +kernel
theorem dX4_letFirstsOut_28 : decode cX4_letFirstsOut 28 = .ok (.iaload, 1) := by decide +kernel
theorem dX4_letFirstsOut_29 : decode cX4_letFirstsOut 29 = .ok (.istore 6, 2) := by decide +kernel
theorem dX4_letFirstsOut_31 : decode cX4_letFirstsOut 31 = .ok (.iconst 1, 1) := by decide +kernel
theorem dX4_letFirstsOut_32 : decode cX4_letFirstsOut 32 = .ok (.aload_n 1, 1) := by decide +kernel
theorem dX4_letFirstsOut_33 : decode cX4_letFirstsOut 33 = .ok (.getfield 58, 3) := by decide +kernel
theorem dX4_letFirstsOut_36 : decode cX4_letFirstsOut 36 = .ok (.iload 6, 2) := by decide +kernel
theorem dX4_letFirstsOut_38 : decode cX4_letFirstsOut 38 = .ok (.iaload, 1) := by decide +kernel
theorem dX4_letFirstsOut_39 : decode cX4_letFirstsOut 39 = .ok (.ishl, 1) := by decide +kernel
theorem dX4_letFirstsOut_40 : decode cX4_letFirstsOut 40 = .ok (.istore 7, 2) := by decide +kernel
theorem dX4_letFirstsOut_42 : decode cX4_letFirstsOut 42 = .ok (.iload_n 3, 1) := by decide +kernel
theorem dX4_letFirstsOut_43 : decode cX4_letFirstsOut 43 = .ok (.iload 7, 2) := by decide +kernel
theorem dX4_letFirstsOut_45 : decode cX4_letFirstsOut 45 = .ok (.iand, 1) := by decide +kernel
theorem dX4_letFirstsOut_46 : decode cX4_letFirstsOut 46 = .ok (.ifCond .ne 19, 3) := by decide +kernel
theorem dX4_letFirstsOut_49 : decode cX4_letFirstsOut 49 = .ok (.iload_n 3, 1) := by decide +kernel
theorem dX4_letFirstsOut_50 : decode cX4_letFirstsOut 50 = .ok (.iload 7, 2) := by decide +kernel
theorem dX4_letFirstsOut_52 : decode cX4_letFirstsOut 52 = .ok (.ior, 1) := by decide +kernel
theorem dX4_letFirstsOut_53 : decode cX4_letFirstsOut 53 = .ok (.istore_n 3, 1) := by decide +kernel
theorem dX4_letFirstsOut_54 : decode cX4_letFirstsOut 54 = .ok (.aload_n 0, 1) := by decide +kernel
theorem dX4_letFirstsOut_55 : decode cX4_letFirstsOut 55 = .ok (.aload_n 1, 1) := by decide +kernel
theorem dX4_letFirstsOut_56 : decode cX4_letFirstsOut 56 = .ok (.iload 6, 2) := by decide +kernel
theorem dX4_letFirstsOut_58 : decode cX4_letFirstsOut 58 = .ok (.iconst 3, 1) := by decide +kernel
theorem dX4_letFirstsOut_59 : decode cX4_letFirstsOut 59 = .ok (.invokevirtual 84, 3) := by decide +kernel
theorem dX4_letFirstsOut_62 : decode cX4_letFirstsOut 62 = .ok (.goto 15, 3) := by decide +kernel
theorem dX4_letFirstsOut_65 : decode cX4_letFirstsOut 65 = .ok (.aload_n 2, 1) := by decide +kernel
theorem dX4_letFirstsOut_66 : decode cX4_letFirstsOut 66 = .ok (.getfield 55, 3) := by decide +kernel
theorem dX4_letFirstsOut_69 : decode cX4_letFirstsOut 69 = .ok (.iload 4, 2) := by decide +kernel
theorem dX4_letFirstsOut_71 : decode cX4_letFirstsOut 71 = .ok (.iload 6, 2) := by decide +kernel
theorem dX4_letFirstsOut_73 : decode cX4_letFirstsOut 73 = .ok (.iastore, 1) := by decide +kernel
theorem dX4_letFirstsOut_74 : decode cX4_letFirstsOut 74 = .ok (.iinc 4 1, 3) := by decide +kernel
theorem dX4_letFirstsOut_77 : decode cX4_letFirstsOut 77 = .ok (.iinc 5 1, 3) := by decide +kernel
theorem dX4_letFirstsOut_80 : decode cX4_letFirstsOut 80 = .ok (.goto (-67), 3) := by decide +kernel
theorem dX4_letFirstsOut_83 : decode cX4_letFirstsOut 83 = .ok (.aload_n 2, 1) := by decide +kernel
theorem dX4_letFirstsOut_84 : decode cX4_letFirstsOut 84 = .ok (.iload 4, 2) := by decide +kernel
theorem dX4_letFirstsOut_86 : decode cX4_letFirstsOut 86 = .ok (.putfield 21, 3) := by decide +kernel
theorem dX4_letFirstsOut_89 : decode cX4_letFirstsOut 89 = .ok (.return_, 1) := by decide +kernel
theorem dX4_endLetter_0 : decode cX4_endLetter 0 = .ok (.aload_n 1, 1) := by decide +kernel
theorem dX4_endLetter_1 : decode cX4_endLetter 1 = .ok (.iload_n 2, 1) := by decide +kernel
theorem dX4_endLetter_2 : decode cX4_endLetter 2 = .ok (.iload_n 3, 1) := by decide +kernel
theorem dX4_endLetter_3 : decode cX4_endLetter 3 = .ok (.invokevirtual 74, 3) := by decide +kernel
theorem dX4_endLetter_6 : decode cX4_endLetter 6 = .ok (.aload_n 1, 1) := by decide +kernel
theorem dX4_endLetter_7 : decode cX4_endLetter 7 = .ok (.getfield 88, 3) := by decide +kernel
theorem dX4_endLetter_10 : decode cX4_endLetter 10 = .ok (.iload_n 2, 1) := by decide +kernel
theorem dX4_endLetter_11 : decode cX4_endLetter 11 = .ok (.aload_n 1, 1) := by decide +kernel
theorem dX4_endLetter_12 : decode cX4_endLetter 12 = .ok (.getfield 52, 3) := by decide +kernel
theorem dX4_endLetter_15 : decode cX4_endLetter 15 = .ok (.iastore, 1) := by decide +kernel
theorem dX4_endLetter_16 : decode cX4_endLetter 16 = .ok (.return_, 1) := by decide +kernel
theorem dX5_init_0 : decode cX5_init 0 = .ok (.aload_n 0, 1) := by decide +kernel
theorem dX5_init_1 : decode cX5_init 1 = .ok (.invokespecial 3, 3) := by decide +kernel
theorem dX5_init_4 : decode cX5_init 4 = .ok (.aload_n 0, 1) := by decide +kernel
theorem dX5_init_5 : decode cX5_init 5 = .ok (.new 9, 3) := by decide +kernel
theorem dX5_init_8 : decode cX5_init 8 = .ok (.dup, 1) := by decide +kernel
theorem dX5_init_9 : decode cX5_init 9 = .ok (.invokespecial 11, 3) := by decide +kernel
theorem dX5_init_12 : decode cX5_init 12 = .ok (.putfield 12, 3) := by decide +kernel
theorem dX5_init_15 : decode cX5_init 15 = .ok (.aload_n 0, 1) := by decide +kernel
theorem dX5_init_16 : decode cX5_init 16 = .ok (.new 9, 3) := by decide +kernel
theorem dX5_init_19 : decode cX5_init 19 = .ok (.dup, 1) := by decide +kernel
theorem dX5_init_20 : decode cX5_init 20 = .ok (.invokespecial 11, 3) := by decide +kernel
theorem dX5_init_23 : decode cX5_init 23 = .ok (.putfield 16, 3) := by decide +kernel
theorem dX5_init_26 : decode cX5_init 26 = .ok (.aload_n 0, 1) := by decide +kernel
theorem dX5_init_27 : decode cX5_init 27 = .ok (.new 19, 3) := by decide +kernel
theorem dX5_init_30 : decode cX5_init 30 = .ok (.dup, 1) := by decide +kernel
theorem dX5_init_31 : decode cX5_init 31 = .ok (.invokespecial 21, 3) := by decide +kernel
theorem dX5_init_34 : decode cX5_init 34 = .ok (.putfield 22, 3) := by decide +kernel
theorem dX5_init_37 : decode cX5_init 37 = .ok (.aload_n 0, 1) := by decide +kernel
theorem dX5_init_38 : decode cX5_init 38 = .ok (.new 26, 3) := by decide +kernel
theorem dX5_init_41 : decode cX5_init 41 = .ok (.dup, 1) := by decide +kernel
theorem dX5_init_42 : decode cX5_init 42 = .ok (.invokespecial 28, 3) := by decide +kernel
theorem dX5_init_45 : decode cX5_init 45 = .ok (.putfield 29, 3) := by decide +kernel
theorem dX5_init_48 : decode cX5_init 48 = .ok (.aload_n 0, 1) := by decide +kernel
theorem dX5_init_49 : decode cX5_init 49 = .ok (.new 33, 3) := by decide +kernel
theorem dX5_init_52 : decode cX5_init 52 = .ok (.dup, 1) := by decide +kernel
theorem dX5_init_53 : decode cX5_init 53 = .ok (.invokespecial 35, 3) := by decide +kernel
theorem dX5_init_56 : decode cX5_init 56 = .ok (.putfield 36, 3) := by decide +kernel
theorem dX5_init_59 : decode cX5_init 59 = .ok (.aload_n 0, 1) := by decide +kernel
theorem dX5_init_60 : decode cX5_init 60 = .ok (.iconst 2, 1) := by decide +kernel
theorem dX5_init_61 : decode cX5_init 61 = .ok (.anewarray 9, 3) := by decide +kernel
theorem dX5_init_64 : decode cX5_init 64 = .ok (.putfield 40, 3) := by decide +kernel
theorem dX5_init_67 : decode cX5_init 67 = .ok (.aload_n 0, 1) := by decide +kernel
theorem dX5_init_68 : decode cX5_init 68 = .ok (.iconst 2, 1) := by decide +kernel
theorem dX5_init_69 : decode cX5_init 69 = .ok (.newarray .boolean, 2) := by decide +kernel
theorem dX5_init_71 : decode cX5_init 71 = .ok (.putfield 44, 3) := by decide +kernel
theorem dX5_init_74 : decode cX5_init 74 = .ok (.aload_n 0, 1) := by decide +kernel
theorem dX5_init_75 : decode cX5_init 75 = .ok (.bipush 8, 2) := by decide +kernel
theorem dX5_init_77 : decode cX5_init 77 = .ok (.newarray .int, 2) := by decide +kernel
theorem dX5_init_79 : decode cX5_init 79 = .ok (.putfield 48, 3) := by decide +kernel
theorem dX5_init_82 : decode cX5_init 82 = .ok (.iconst 0, 1) := by decide +kernel
theorem dX5_init_83 : decode cX5_init 83 = .ok (.istore_n 1, 1) := by decide +kernel
theorem dX5_init_84 : decode cX5_init 84 = .ok (.iload_n 1, 1) := by decide +kernel
theorem dX5_init_85 : decode cX5_init 85 = .ok (.iconst 2, 1) := by decide +kernel
theorem dX5_init_86 : decode cX5_init 86 = .ok (.if_icmp .ge 22, 3) := by decide +kernel
theorem dX5_init_89 : decode cX5_init 89 = .ok (.aload_n 0, 1) := by decide +kernel
theorem dX5_init_90 : decode cX5_init 90 = .ok (.getfield 40, 3) := by decide +kernel
theorem dX5_init_93 : decode cX5_init 93 = .ok (.iload_n 1, 1) := by decide +kernel
theorem dX5_init_94 : decode cX5_init 94 = .ok (.new 9, 3) := by decide +kernel
theorem dX5_init_97 : decode cX5_init 97 = .ok (.dup, 1) := by decide +kernel
theorem dX5_init_98 : decode cX5_init 98 = .ok (.invokespecial 11, 3) := by decide +kernel
theorem dX5_init_101 : decode cX5_init 101 = .ok (.aastore, 1) := by decide +kernel
theorem dX5_init_102 : decode cX5_init 102 = .ok (.iinc 1 1, 3) := by decide +kernel
theorem dX5_init_105 : decode cX5_init 105 = .ok (.goto (-21), 3) := by decide +kernel
theorem dX5_init_108 : decode cX5_init 108 = .ok (.return_, 1) := by decide +kernel
theorem dX5_tells_0 : decode cX5_tells 0 = .ok (.iload_n 1, 1) := by decide +kernel
theorem dX5_tells_1 : decode cX5_tells 1 = .ok (.iconst 1, 1) := by decide +kernel
theorem dX5_tells_2 : decode cX5_tells 2 = .ok (.iconst 3, 1) := by decide +kernel
theorem dX5_tells_3 : decode cX5_tells 3 = .ok (.invokestatic 52, 3) := by decide +kernel
theorem dX5_tells_6 : decode cX5_tells 6 = .ok (.ifCond .eq 23, 3) := by decide +kernel
theorem dX5_tells_9 : decode cX5_tells 9 = .ok (.iload_n 2, 1) := by decide +kernel
theorem dX5_tells_10 : decode cX5_tells 10 = .ok (.iconst 0, 1) := by decide +kernel
theorem dX5_tells_11 : decode cX5_tells 11 = .ok (.bipush 8, 2) := by decide +kernel
theorem dX5_tells_13 : decode cX5_tells 13 = .ok (.invokestatic 52, 3) := by decide +kernel
theorem dX5_tells_16 : decode cX5_tells 16 = .ok (.ifCond .eq 13, 3) := by decide +kernel
theorem dX5_tells_19 : decode cX5_tells 19 = .ok (.iload_n 3, 1) := by decide +kernel
theorem dX5_tells_20 : decode cX5_tells 20 = .ok (.iconst 0, 1) := by decide +kernel
theorem dX5_tells_21 : decode cX5_tells 21 = .ok (.bipush 24, 2) := by decide +kernel
theorem dX5_tells_23 : decode cX5_tells 23 = .ok (.invokestatic 52, 3) := by decide +kernel
theorem dX5_tells_26 : decode cX5_tells 26 = .ok (.ifCond .ne 5, 3) := by decide +kernel
theorem dX5_tells_29 : decode cX5_tells 29 = .ok (.iconst (-1), 1) := by decide +kernel
theorem dX5_tells_30 : decode cX5_tells 30 = .ok (.ireturn, 1) := by decide +kernel
theorem dX5_tells_31 : decode cX5_tells 31 = .ok (.aload_n 0, 1) := by decide +kernel
theorem dX5_tells_32 : decode cX5_tells 32 = .ok (.getfield 12, 3) := by decide +kernel
theorem dX5_tells_35 : decode cX5_tells 35 = .ok (.getfield 56, 3) := by decide +kernel
theorem dX5_tells_38 : decode cX5_tells 38 = .ok (.iload_n 1, 1) := by decide +kernel
theorem dX5_tells_39 : decode cX5_tells 39 = .ok (.if_icmp .ne 28, 3) := by decide +kernel
theorem dX5_tells_42 : decode cX5_tells 42 = .ok (.aload_n 0, 1) := by decide +kernel
theorem dX5_tells_43 : decode cX5_tells 43 = .ok (.getfield 12, 3) := by decide +kernel
theorem dX5_tells_46 : decode cX5_tells 46 = .ok (.getfield 60, 3) := by decide +kernel
theorem dX5_tells_49 : decode cX5_tells 49 = .ok (.iload_n 2, 1) := by decide +kernel
theorem dX5_tells_50 : decode cX5_tells 50 = .ok (.if_icmp .ne 17, 3) := by decide +kernel
theorem dX5_tells_53 : decode cX5_tells 53 = .ok (.aload_n 0, 1) := by decide +kernel
theorem dX5_tells_54 : decode cX5_tells 54 = .ok (.getfield 12, 3) := by decide +kernel
theorem dX5_tells_57 : decode cX5_tells 57 = .ok (.getfield 63, 3) := by decide +kernel
theorem dX5_tells_60 : decode cX5_tells 60 = .ok (.iload_n 3, 1) := by decide +kernel
theorem dX5_tells_61 : decode cX5_tells 61 = .ok (.if_icmp .ne 6, 3) := by decide +kernel
theorem dX5_tells_64 : decode cX5_tells 64 = .ok (.bipush (-2), 2) := by decide +kernel
theorem dX5_tells_66 : decode cX5_tells 66 = .ok (.ireturn, 1) := by decide +kernel
theorem dX5_tells_67 : decode cX5_tells 67 = .ok (.aload_n 0, 1) := by decide +kernel
theorem dX5_tells_68 : decode cX5_tells 68 = .ok (.getfield 29, 3) := by decide +kernel
theorem dX5_tells_71 : decode cX5_tells 71 = .ok (.aload_n 0, 1) := by decide +kernel
theorem dX5_tells_72 : decode cX5_tells 72 = .ok (.getfield 12, 3) := by decide +kernel
theorem dX5_tells_75 : decode cX5_tells 75 = .ok (.invokevirtual 66, 3) := by decide +kernel
theorem dX5_tells_78 : decode cX5_tells 78 = .ok (.aload_n 0, 1) := by decide +kernel
theorem dX5_tells_79 : decode cX5_tells 79 = .ok (.getfield 12, 3) := by decide +kernel
theorem dX5_tells_82 : decode cX5_tells 82 = .ok (.iload_n 1, 1) := by decide +kernel
theorem dX5_tells_83 : decode cX5_tells 83 = .ok (.putfield 56, 3) := by decide +kernel
theorem dX5_tells_86 : decode cX5_tells 86 = .ok (.aload_n 0, 1) := by decide +kernel
theorem dX5_tells_87 : decode cX5_tells 87 = .ok (.getfield 12, 3) := by decide +kernel
theorem dX5_tells_90 : decode cX5_tells 90 = .ok (.iload_n 2, 1) := by decide +kernel
theorem dX5_tells_91 : decode cX5_tells 91 = .ok (.putfield 60, 3) := by decide +kernel
theorem dX5_tells_94 : decode cX5_tells 94 = .ok (.aload_n 0, 1) := by decide +kernel
theorem dX5_tells_95 : decode cX5_tells 95 = .ok (.getfield 12, 3) := by decide +kernel
theorem dX5_tells_98 : decode cX5_tells 98 = .ok (.iload_n 3, 1) := by decide +kernel
theorem dX5_tells_99 : decode cX5_tells 99 = .ok (.putfield 63, 3) := by decide +kernel
theorem dX5_tells_102 : decode cX5_tells 102 = .ok (.iconst 1, 1) := by decide +kernel
theorem dX5_tells_103 : decode cX5_tells 103 = .ok (.ireturn, 1) := by decide +kernel
theorem dX5_puts_0 : decode cX5_puts 0 = .ok (.iload_n 1, 1) := by decide +kernel
theorem dX5_puts_1 : decode cX5_puts 1 = .ok (.invokestatic 70, 3) := by decide +kernel
theorem dX5_puts_4 : decode cX5_puts 4 = .ok (.ifCond .eq 19, 3) := by decide +kernel
theorem dX5_puts_7 : decode cX5_puts 7 = .ok (.iload_n 2, 1) := by decide +kernel
theorem dX5_puts_8 : decode cX5_puts 8 = .ok (.invokestatic 74, 3) := by decide +kernel
theorem dX5_puts_11 : decode cX5_puts 11 = .ok (.ifCond .eq 12, 3) := by decide +kernel
theorem dX5_puts_14 : decode cX5_puts 14 = .ok (.iload_n 3, 1) := by decide +kernel
theorem dX5_puts_15 : decode cX5_puts 15 = .ok (.iconst 0, 1) := by decide +kernel
theorem dX5_puts_16 : decode cX5_puts 16 = .ok (.iconst 3, 1) := by decide +kernel
theorem dX5_puts_17 : decode cX5_puts 17 = .ok (.invokestatic 52, 3) := by decide +kernel
theorem dX5_puts_20 : decode cX5_puts 20 = .ok (.ifCond .ne 5, 3) := by decide +kernel
theorem dX5_puts_23 : decode cX5_puts 23 = .ok (.iconst (-1), 1) := by decide +kernel
theorem dX5_puts_24 : decode cX5_puts 24 = .ok (.ireturn, 1) := by decide +kernel
theorem dX5_puts_25 : decode cX5_puts 25 = .ok (.aload_n 0, 1) := by decide +kernel
theorem dX5_puts_26 : decode cX5_puts 26 = .ok (.getfield 12, 3) := by decide +kernel
theorem dX5_puts_29 : decode cX5_puts 29 = .ok (.iload_n 1, 1) := by decide +kernel
theorem dX5_puts_30 : decode cX5_puts 30 = .ok (.invokevirtual 77, 3) := by decide +kernel
theorem dX5_puts_33 : decode cX5_puts 33 = .ok (.bipush (-9), 2) := by decide +kernel
theorem dX5_puts_35 : decode cX5_puts 35 = .ok (.if_icmp .eq 6, 3) := by decide +kernel
theorem dX5_puts_38 : decode cX5_puts 38 = .ok (.bipush (-2), 2) := by decide +kernel
theorem dX5_puts_40 : decode cX5_puts 40 = .ok (.ireturn, 1) := by decide +kernel
theorem dX5_puts_41 : decode cX5_puts 41 = .ok (.aload_n 0, 1) := by decide +kernel
theorem dX5_puts_42 : decode cX5_puts 42 = .ok (.getfield 12, 3) := by decide +kernel
theorem dX5_puts_45 : decode cX5_puts 45 = .ok (.getfield 81, 3) := by decide +kernel
theorem dX5_puts_48 : decode cX5_puts 48 = .ok (.bipush 64, 2) := by decide +kernel
theorem dX5_puts_50 : decode cX5_puts 50 = .ok (.if_icmp .lt 6, 3) := by decide +kernel
theorem dX5_puts_53 : decode cX5_puts 53 = .ok (.bipush (-3), 2) := by decide +kernel
theorem dX5_puts_55 : decode cX5_puts 55 = .ok (.ireturn, 1) := by decide +kernel
theorem dX5_puts_56 : decode cX5_puts 56 = .ok (.aload_n 0, 1) := by decide +kernel
theorem dX5_puts_57 : decode cX5_puts 57 = .ok (.getfield 29, 3) := by decide +kernel
theorem dX5_puts_60 : decode cX5_puts 60 = .ok (.aload_n 0, 1) := by decide +kernel
theorem dX5_puts_61 : decode cX5_puts 61 = .ok (.getfield 12, 3) := by decide +kernel
theorem dX5_puts_64 : decode cX5_puts 64 = .ok (.invokevirtual 66, 3) := by decide +kernel
theorem dX5_puts_67 : decode cX5_puts 67 = .ok (.aload_n 0, 1) := by decide +kernel
theorem dX5_puts_68 : decode cX5_puts 68 = .ok (.getfield 12, 3) := by decide +kernel
theorem dX5_puts_71 : decode cX5_puts 71 = .ok (.iload_n 1, 1) := by decide +kernel
theorem dX5_puts_72 : decode cX5_puts 72 = .ok (.iload_n 2, 1) := by decide +kernel
theorem dX5_puts_73 : decode cX5_puts 73 = .ok (.iload_n 3, 1) := by decide +kernel
theorem dX5_puts_74 : decode cX5_puts 74 = .ok (.invokevirtual 84, 3) := by decide +kernel
theorem dX5_puts_77 : decode cX5_puts 77 = .ok (.ireturn, 1) := by decide +kernel
theorem dX5_slot_0 : decode cX5_slot 0 = .ok (.aload_n 0, 1) := by decide +kernel
theorem dX5_slot_1 : decode cX5_slot 1 = .ok (.getfield 12, 3) := by decide +kernel
theorem dX5_slot_4 : decode cX5_slot 4 = .ok (.getfield 88, 3) := by decide +kernel
theorem dX5_slot_7 : decode cX5_slot 7 = .ok (.bipush 99, 2) := by decide +kernel
theorem dX5_slot_9 : decode cX5_slot 9 = .ok (.if_icmp .lt 6, 3) := by decide +kernel
theorem dX5_slot_12 : decode cX5_slot 12 = .ok (.bipush (-2), 2) := by decide +kernel
theorem dX5_slot_14 : decode cX5_slot 14 = .ok (.ireturn, 1) := by decide +kernel
theorem dX5_slot_15 : decode cX5_slot 15 = .ok (.aload_n 0, 1) := by decide +kernel
theorem dX5_slot_16 : decode cX5_slot 16 = .ok (.getfield 29, 3) := by decide +kernel
theorem dX5_slot_19 : decode cX5_slot 19 = .ok (.aload_n 0, 1) := by decide +kernel
theorem dX5_slot_20 : decode cX5_slot 20 = .ok (.getfield 12, 3) := by decide +kernel
theorem dX5_slot_23 : decode cX5_slot 23 = .ok (.invokevirtual 66, 3) := by decide +kernel
theorem dX5_slot_26 : decode cX5_slot 26 = .ok (.aload_n 0, 1) := by decide +kernel
theorem dX5_slot_27 : decode cX5_slot 27 = .ok (.getfield 12, 3) := by decide +kernel
theorem dX5_slot_30 : decode cX5_slot 30 = .ok (.getfield 91, 3) := by decide +kernel
theorem dX5_slot_33 : decode cX5_slot 33 = .ok (.iconst 3, 1) := by decide +kernel
theorem dX5_slot_34 : decode cX5_slot 34 = .ok (.iaload, 1) := by decide +kernel
theorem dX5_slot_35 : decode cX5_slot 35 = .ok (.istore_n 1, 1) := by decide +kernel
theorem dX5_slot_36 : decode cX5_slot 36 = .ok (.aload_n 0, 1) := by decide +kernel
theorem dX5_slot_37 : decode cX5_slot 37 = .ok (.getfield 22, 3) := by decide +kernel
theorem dX5_slot_40 : decode cX5_slot 40 = .ok (.aload_n 0, 1) := by decide +kernel
theorem dX5_slot_41 : decode cX5_slot 41 = .ok (.getfield 12, 3) := by decide +kernel
theorem dX5_slot_44 : decode cX5_slot 44 = .ok (.invokevirtual 94, 3) := by decide +kernel
theorem dX5_slot_47 : decode cX5_slot 47 = .ok (.aload_n 0, 1) := by decide +kernel
theorem dX5_slot_48 : decode cX5_slot 48 = .ok (.getfield 12, 3) := by decide +kernel
theorem dX5_slot_51 : decode cX5_slot 51 = .ok (.getfield 91, 3) := by decide +kernel
theorem dX5_slot_54 : decode cX5_slot 54 = .ok (.iconst 3, 1) := by decide +kernel
theorem dX5_slot_55 : decode cX5_slot 55 = .ok (.iaload, 1) := by decide +kernel
theorem dX5_slot_56 : decode cX5_slot 56 = .ok (.iload_n 1, 1) := by decide +kernel
theorem dX5_slot_57 : decode cX5_slot 57 = .ok (.isub, 1) := by decide +kernel
theorem dX5_slot_58 : decode cX5_slot 58 = .ok (.ireturn, 1) := by decide +kernel
theorem dX5_undo_0 : decode cX5_undo 0 = .ok (.aload_n 0, 1) := by decide +kernel
theorem dX5_undo_1 : decode cX5_undo 1 = .ok (.getfield 29, 3) := by decide +kernel
theorem dX5_undo_4 : decode cX5_undo 4 = .ok (.getfield 97, 3) := by decide +kernel
theorem dX5_undo_7 : decode cX5_undo 7 = .ok (.ifCond .ne 6, 3) := by decide +kernel
theorem dX5_undo_10 : decode cX5_undo 10 = .ok (.bipush (-2), 2) := by decide +kernel
theorem dX5_undo_12 : decode cX5_undo 12 = .ok (.ireturn, 1) := by decide +kernel
theorem dX5_undo_13 : decode cX5_undo 13 = .ok (.aload_n 0, 1) := by decide +kernel
theorem dX5_undo_14 : decode cX5_undo 14 = .ok (.getfield 29, 3) := by decide +kernel
theorem dX5_undo_17 : decode cX5_undo 17 = .ok (.aload_n 0, 1) := by decide +kernel
theorem dX5_undo_18 : decode cX5_undo 18 = .ok (.getfield 12, 3) := by decide +kernel
theorem dX5_undo_21 : decode cX5_undo 21 = .ok (.invokevirtual 100, 3) := by decide +kernel
theorem dX5_undo_24 : decode cX5_undo 24 = .ok (.aload_n 0, 1) := by decide +kernel
theorem dX5_undo_25 : decode cX5_undo 25 = .ok (.getfield 29, 3) := by decide +kernel
theorem dX5_undo_28 : decode cX5_undo 28 = .ok (.getfield 97, 3) := by decide +kernel
theorem dX5_undo_31 : decode cX5_undo 31 = .ok (.ireturn, 1) := by decide +kernel
theorem dX5_clear_0 : decode cX5_clear 0 = .ok (.aload_n 0, 1) := by decide +kernel
theorem dX5_clear_1 : decode cX5_clear 1 = .ok (.getfield 12, 3) := by decide +kernel
theorem dX5_clear_4 : decode cX5_clear 4 = .ok (.getfield 81, 3) := by decide +kernel
theorem dX5_clear_7 : decode cX5_clear 7 = .ok (.istore_n 1, 1) := by decide +kernel
theorem dX5_clear_8 : decode cX5_clear 8 = .ok (.aload_n 0, 1) := by decide +kernel
theorem dX5_clear_9 : decode cX5_clear 9 = .ok (.getfield 12, 3) := by decide +kernel
theorem dX5_clear_12 : decode cX5_clear 12 = .ok (.invokevirtual 103, 3) := by decide +kernel
theorem dX5_clear_15 : decode cX5_clear 15 = .ok (.aload_n 0, 1) := by decide +kernel
theorem dX5_clear_16 : decode cX5_clear 16 = .ok (.getfield 29, 3) := by decide +kernel
theorem dX5_clear_19 : decode cX5_clear 19 = .ok (.iconst 0, 1) := by decide +kernel
theorem dX5_clear_20 : decode cX5_clear 20 = .ok (.putfield 97, 3) := by decide +kernel
theorem dX5_clear_23 : decode cX5_clear 23 = .ok (.aload_n 0, 1) := by decide +kernel
theorem dX5_clear_24 : decode cX5_clear 24 = .ok (.getfield 36, 3) := by decide +kernel
theorem dX5_clear_27 : decode cX5_clear 27 = .ok (.iconst 0, 1) := by decide +kernel
theorem dX5_clear_28 : decode cX5_clear 28 = .ok (.putfield 106, 3) := by decide +kernel
theorem dX5_clear_31 : decode cX5_clear 31 = .ok (.iconst 0, 1) := by decide +kernel
theorem dX5_clear_32 : decode cX5_clear 32 = .ok (.istore_n 2, 1) := by decide +kernel
theorem dX5_clear_33 : decode cX5_clear 33 = .ok (.iload_n 2, 1) := by decide +kernel
theorem dX5_clear_34 : decode cX5_clear 34 = .ok (.iconst 2, 1) := by decide +kernel
theorem dX5_clear_35 : decode cX5_clear 35 = .ok (.if_icmp .ge 16, 3) := by decide +kernel
theorem dX5_clear_38 : decode cX5_clear 38 = .ok (.aload_n 0, 1) := by decide +kernel
theorem dX5_clear_39 : decode cX5_clear 39 = .ok (.getfield 44, 3) := by decide +kernel
theorem dX5_clear_42 : decode cX5_clear 42 = .ok (.iload_n 2, 1) := by decide +kernel
theorem dX5_clear_43 : decode cX5_clear 43 = .ok (.iconst 0, 1) := by decide +kernel
theorem dX5_clear_44 : decode cX5_clear 44 = .ok (.bastore, 1) := by decide +kernel
theorem dX5_clear_45 : decode cX5_clear 45 = .ok (.iinc 2 1, 3) := by decide +kernel
theorem dX5_clear_48 : decode cX5_clear 48 = .ok (.goto (-15), 3) := by decide +kernel
theorem dX5_clear_51 : decode cX5_clear 51 = .ok (.iload_n 1, 1) := by decide +kernel
theorem dX5_clear_52 : decode cX5_clear 52 = .ok (.ireturn, 1) := by decide +kernel
theorem dX5_letter_0 : decode cX5_letter 0 = .ok (.iload_n 1, 1) := by decide +kernel
theorem dX5_letter_1 : decode cX5_letter 1 = .ok (.iconst 0, 1) := by decide +kernel
theorem dX5_letter_2 : decode cX5_letter 2 = .ok (.aload_n 0, 1) := by decide +kernel
theorem dX5_letter_3 : decode cX5_letter 3 = .ok (.getfield 12, 3) := by decide +kernel
theorem dX5_letter_6 : decode cX5_letter 6 = .ok (.getfield 81, 3) := by decide +kernel
theorem dX5_letter_9 : decode cX5_letter 9 = .ok (.iconst 1, 1) := by decide +kernel
theorem dX5_letter_10 : decode cX5_letter 10 = .ok (.isub, 1) := by decide +kernel
theorem dX5_letter_11 : decode cX5_letter 11 = .ok (.invokestatic 52, 3) := by decide +kernel
theorem dX5_letter_14 : decode cX5_letter 14 = .ok (.ifCond .ne 5, 3) := by decide +kernel
theorem dX5_letter_17 : decode cX5_letter 17 = .ok (.iconst (-1), 1) := by decide +kernel
theorem dX5_letter_18 : decode cX5_letter 18 = .ok (.ireturn, 1) := by decide +kernel
theorem dX5_letter_19 : decode cX5_letter 19 = .ok (.iload_n 2, 1) := by decide +kernel
theorem dX5_letter_20 : decode cX5_letter 20 = .ok (.tableswitch 114 0 6 #[44, 54, 64, 74, 84, 94, 104], 44) := by decide +kernel
theorem dX5_letter_64 : decode cX5_letter 64 = .ok (.aload_n 0, 1) := by decide +kernel
theorem dX5_letter_65 : decode cX5_letter 65 = .ok (.getfield 12, 3) := by decide +kernel
theorem dX5_letter_68 : decode cX5_letter 68 = .ok (.getfield 109, 3) := by decide +kernel
theorem dX5_letter_71 : decode cX5_letter 71 = .ok (.iload_n 1, 1) := by decide +kernel
theorem dX5_letter_72 : decode cX5_letter 72 = .ok (.iaload, 1) := by decide +kernel
theorem dX5_letter_73 : decode cX5_letter 73 = .ok (.ireturn, 1) := by decide +kernel
theorem dX5_letter_74 : decode cX5_letter 74 = .ok (.aload_n 0, 1) := by decide +kernel
theorem dX5_letter_75 : decode cX5_letter 75 = .ok (.getfield 12, 3) := by decide +kernel
theorem dX5_letter_78 : decode cX5_letter 78 = .ok (.getfield 112, 3) := by decide +kernel
theorem dX5_letter_81 : decode cX5_letter 81 = .ok (.iload_n 1, 1) := by decide +kernel
theorem dX5_letter_82 : decode cX5_letter 82 = .ok (.iaload, 1) := by decide +kernel
theorem dX5_letter_83 : decode cX5_letter 83 = .ok (.ireturn, 1) := by decide +kernel
theorem dX5_letter_84 : decode cX5_letter 84 = .ok (.aload_n 0, 1) := by decide +kernel
theorem dX5_letter_85 : decode cX5_letter 85 = .ok (.getfield 12, 3) := by decide +kernel
theorem dX5_letter_88 : decode cX5_letter 88 = .ok (.getfield 115, 3) := by decide +kernel
theorem dX5_letter_91 : decode cX5_letter 91 = .ok (.iload_n 1, 1) := by decide +kernel
theorem dX5_letter_92 : decode cX5_letter 92 = .ok (.iaload, 1) := by decide +kernel
theorem dX5_letter_93 : decode cX5_letter 93 = .ok (.ireturn, 1) := by decide +kernel
theorem dX5_letter_94 : decode cX5_letter 94 = .ok (.aload_n 0, 1) := by decide +kernel
theorem dX5_letter_95 : decode cX5_letter 95 = .ok (.getfield 12, 3) := by decide +kernel
theorem dX5_letter_98 : decode cX5_letter 98 = .ok (.getfield 118, 3) := by decide +kernel
theorem dX5_letter_101 : decode cX5_letter 101 = .ok (.iload_n 1, 1) := by decide +kernel
theorem dX5_letter_102 : decode cX5_letter 102 = .ok (.iaload, 1) := by decide +kernel
theorem dX5_letter_103 : decode cX5_letter 103 = .ok (.ireturn, 1) := by decide +kernel
theorem dX5_letter_104 : decode cX5_letter 104 = .ok (.aload_n 0, 1) := by decide +kernel
theorem dX5_letter_105 : decode cX5_letter 105 = .ok (.getfield 12, 3) := by decide +kernel
theorem dX5_letter_108 : decode cX5_letter 108 = .ok (.getfield 121, 3) := by decide +kernel
theorem dX5_letter_111 : decode cX5_letter 111 = .ok (.iload_n 1, 1) := by decide +kernel
theorem dX5_letter_112 : decode cX5_letter 112 = .ok (.iaload, 1) := by decide +kernel
theorem dX5_letter_113 : decode cX5_letter 113 = .ok (.ireturn, 1) := by decide +kernel
theorem dX5_letter_114 : decode cX5_letter 114 = .ok (.aload_n 0, 1) := by decide +kernel
theorem dX5_letter_115 : decode cX5_letter 115 = .ok (.getfield 12, 3) := by decide +kernel
theorem dX5_letter_118 : decode cX5_letter 118 = .ok (.getfield 124, 3) := by decide +kernel
theorem dX5_letter_121 : decode cX5_letter 121 = .ok (.iload_n 1, 1) := by decide +kernel
theorem dX5_letter_122 : decode cX5_letter 122 = .ok (.iaload, 1) := by decide +kernel
theorem dX5_letter_123 : decode cX5_letter 123 = .ok (.ireturn, 1) := by decide +kernel
theorem dX5_letter_124 : decode cX5_letter 124 = .ok (.aload_n 0, 1) := by decide +kernel
theorem dX5_letter_125 : decode cX5_letter 125 = .ok (.getfield 12, 3) := by decide +kernel
theorem dX5_letter_128 : decode cX5_letter 128 = .ok (.getfield 127, 3) := by decide +kernel
theorem dX5_letter_131 : decode cX5_letter 131 = .ok (.iload_n 1, 1) := by decide +kernel
theorem dX5_letter_132 : decode cX5_letter 132 = .ok (.iaload, 1) := by decide +kernel
theorem dX5_letter_133 : decode cX5_letter 133 = .ok (.ireturn, 1) := by decide +kernel
theorem dX5_letter_134 : decode cX5_letter 134 = .ok (.iconst (-1), 1) := by decide +kernel
theorem dX5_letter_135 : decode cX5_letter 135 = .ok (.ireturn, 1) := by decide +kernel
theorem dX5_line_0 : decode cX5_line 0 = .ok (.iload_n 1, 1) := by decide +kernel
theorem dX5_line_1 : decode cX5_line 1 = .ok (.invokestatic 70, 3) := by decide +kernel
theorem dX5_line_4 : decode cX5_line 4 = .ok (.ifCond .eq 14, 3) := by decide +kernel
theorem dX5_line_7 : decode cX5_line 7 = .ok (.aload_n 0, 1) := by decide +kernel
theorem dX5_line_8 : decode cX5_line 8 = .ok (.getfield 12, 3) := by decide +kernel
theorem dX5_line_11 : decode cX5_line 11 = .ok (.iload_n 1, 1) := by decide +kernel
theorem dX5_line_12 : decode cX5_line 12 = .ok (.invokevirtual 77, 3) := by decide +kernel
theorem dX5_line_15 : decode cX5_line 15 = .ok (.goto 4, 3) := by decide +kernel
theorem dX5_line_18 : decode cX5_line 18 = .ok (.iconst (-1), 1) := by decide +kernel
theorem dX5_line_19 : decode cX5_line 19 = .ok (.ireturn, 1) := by decide +kernel
theorem dX5_queue_0 : decode cX5_queue 0 = .ok (.iload_n 1, 1) := by decide +kernel
theorem dX5_queue_1 : decode cX5_queue 1 = .ok (.invokestatic 74, 3) := by decide +kernel
theorem dX5_queue_4 : decode cX5_queue 4 = .ok (.ifCond .eq 7, 3) := by decide +kernel
theorem dX5_queue_7 : decode cX5_queue 7 = .ok (.iload_n 2, 1) := by decide +kernel
theorem dX5_queue_8 : decode cX5_queue 8 = .ok (.ifCond .ge 5, 3) := by decide +kernel
theorem dX5_queue_11 : decode cX5_queue 11 = .ok (.iconst (-1), 1) := by decide +kernel
theorem dX5_queue_12 : decode cX5_queue 12 = .ok (.ireturn, 1) := by decide +kernel
theorem dX5_queue_13 : decode cX5_queue 13 = .ok (.aload_n 0, 1) := by decide +kernel
theorem dX5_queue_14 : decode cX5_queue 14 = .ok (.getfield 12, 3) := by decide +kernel
theorem dX5_queue_17 : decode cX5_queue 17 = .ok (.iload_n 1, 1) := by decide +kernel
theorem dX5_queue_18 : decode cX5_queue 18 = .ok (.iload_n 2, 1) := by decide +kernel
theorem dX5_queue_19 : decode cX5_queue 19 = .ok (.invokevirtual 130, 3) := by decide +kernel
theorem dX5_queue_22 : decode cX5_queue 22 = .ok (.ireturn, 1) := by decide +kernel
theorem dX5_turned_0 : decode cX5_turned 0 = .ok (.iload_n 1, 1) := by decide +kernel
theorem dX5_turned_1 : decode cX5_turned 1 = .ok (.ifCond .ge 5, 3) := by decide +kernel
theorem dX5_turned_4 : decode cX5_turned 4 = .ok (.iconst (-1), 1) := by decide +kernel
theorem dX5_turned_5 : decode cX5_turned 5 = .ok (.ireturn, 1) := by decide +kernel
theorem dX5_turned_6 : decode cX5_turned 6 = .ok (.aload_n 0, 1) := by decide +kernel
theorem dX5_turned_7 : decode cX5_turned 7 = .ok (.getfield 22, 3) := by decide +kernel
theorem dX5_turned_10 : decode cX5_turned 10 = .ok (.aload_n 0, 1) := by decide +kernel
theorem dX5_turned_11 : decode cX5_turned 11 = .ok (.getfield 12, 3) := by decide +kernel
theorem dX5_turned_14 : decode cX5_turned 14 = .ok (.invokevirtual 134, 3) := by decide +kernel
theorem dX5_turned_17 : decode cX5_turned 17 = .ok (.iload_n 1, 1) := by decide +kernel
theorem dX5_turned_18 : decode cX5_turned 18 = .ok (.invokevirtual 138, 3) := by decide +kernel
theorem dX5_turned_21 : decode cX5_turned 21 = .ok (.ireturn, 1) := by decide +kernel
theorem dX5_sorted_0 : decode cX5_sorted 0 = .ok (.iload_n 1, 1) := by decide +kernel
theorem dX5_sorted_1 : decode cX5_sorted 1 = .ok (.ifCond .ge 5, 3) := by decide +kernel
theorem dX5_sorted_4 : decode cX5_sorted 4 = .ok (.iconst (-1), 1) := by decide +kernel
theorem dX5_sorted_5 : decode cX5_sorted 5 = .ok (.ireturn, 1) := by decide +kernel
theorem dX5_sorted_6 : decode cX5_sorted 6 = .ok (.aload_n 0, 1) := by decide +kernel
theorem dX5_sorted_7 : decode cX5_sorted 7 = .ok (.getfield 22, 3) := by decide +kernel
theorem dX5_sorted_10 : decode cX5_sorted 10 = .ok (.aload_n 0, 1) := by decide +kernel
theorem dX5_sorted_11 : decode cX5_sorted 11 = .ok (.getfield 12, 3) := by decide +kernel
theorem dX5_sorted_14 : decode cX5_sorted 14 = .ok (.invokevirtual 143, 3) := by decide +kernel
theorem dX5_sorted_17 : decode cX5_sorted 17 = .ok (.iload_n 1, 1) := by decide +kernel
theorem dX5_sorted_18 : decode cX5_sorted 18 = .ok (.invokevirtual 138, 3) := by decide +kernel
theorem dX5_sorted_21 : decode cX5_sorted 21 = .ok (.ireturn, 1) := by decide +kernel
theorem dX5_straight_0 : decode cX5_straight 0 = .ok (.iload_n 1, 1) := by decide +kernel
theorem dX5_straight_1 : decode cX5_straight 1 = .ok (.invokestatic 70, 3) := by decide +kernel
theorem dX5_straight_4 : decode cX5_straight 4 = .ok (.ifCond .ne 5, 3) := by decide +kernel
theorem dX5_straight_7 : decode cX5_straight 7 = .ok (.iconst (-1), 1) := by decide +kernel
theorem dX5_straight_8 : decode cX5_straight 8 = .ok (.ireturn, 1) := by decide +kernel
theorem dX5_straight_9 : decode cX5_straight 9 = .ok (.aload_n 0, 1) := by decide +kernel
theorem dX5_straight_10 : decode cX5_straight 10 = .ok (.getfield 12, 3) := by decide +kernel
theorem dX5_straight_13 : decode cX5_straight 13 = .ok (.iload_n 1, 1) := by decide +kernel
theorem dX5_straight_14 : decode cX5_straight 14 = .ok (.invokevirtual 77, 3) := by decide +kernel
theorem dX5_straight_17 : decode cX5_straight 17 = .ok (.bipush (-9), 2) := by decide +kernel
theorem dX5_straight_19 : decode cX5_straight 19 = .ok (.if_icmp .ne 6, 3) := by decide +kernel
theorem dX5_straight_22 : decode cX5_straight 22 = .ok (.bipush (-2), 2) := by decide +kernel
theorem dX5_straight_24 : decode cX5_straight 24 = .ok (.ireturn, 1) := by decide +kernel
theorem dX5_straight_25 : decode cX5_straight 25 = .ok (.aload_n 0, 1) := by decide +kernel
theorem dX5_straight_26 : decode cX5_straight 26 = .ok (.invokevirtual 146, 3) := by decide +kernel
theorem dX5_straight_29 : decode cX5_straight 29 = .ok (.iconst 1, 1) := by decide +kernel
theorem dX5_straight_30 : decode cX5_straight 30 = .ok (.istore_n 2, 1) := by decide +kernel
theorem dX5_straight_31 : decode cX5_straight 31 = .ok (.iload_n 2, 1) := by decide +kernel
theorem dX5_straight_32 : decode cX5_straight 32 = .ok (.iconst 3, 1) := by decide +kernel
theorem dX5_straight_33 : decode cX5_straight 33 = .ok (.if_icmp .gt 27, 3) := by decide +kernel
theorem dX5_straight_36 : decode cX5_straight 36 = .ok (.aload_n 0, 1) := by decide +kernel
theorem dX5_straight_37 : decode cX5_straight 37 = .ok (.iload_n 2, 1) := by decide +kernel
theorem dX5_straight_38 : decode cX5_straight 38 = .ok (.invokevirtual 149, 3) := by decide +kernel
theorem dX5_straight_41 : decode cX5_straight 41 = .ok (.aload_n 0, 1) := by decide +kernel
theorem dX5_straight_42 : decode cX5_straight 42 = .ok (.getfield 48, 3) := by decide +kernel
theorem dX5_straight_45 : decode cX5_straight 45 = .ok (.iload_n 1, 1) := by decide +kernel
theorem dX5_straight_46 : decode cX5_straight 46 = .ok (.iaload, 1) := by decide +kernel
theorem dX5_straight_47 : decode cX5_straight 47 = .ok (.bipush (-9), 2) := by decide +kernel
theorem dX5_straight_49 : decode cX5_straight 49 = .ok (.if_icmp .ne 5, 3) := by decide +kernel
theorem dX5_straight_52 : decode cX5_straight 52 = .ok (.iload_n 2, 1) := by decide +kernel
theorem dX5_straight_53 : decode cX5_straight 53 = .ok (.ireturn, 1) := by decide +kernel
theorem dX5_straight_54 : decode cX5_straight 54 = .ok (.iinc 2 1, 3) := by decide +kernel
theorem dX5_straight_57 : decode cX5_straight 57 = .ok (.goto (-26), 3) := by decide +kernel
theorem dX5_straight_60 : decode cX5_straight 60 = .ok (.iconst 0, 1) := by decide +kernel
theorem dX5_straight_61 : decode cX5_straight 61 = .ok (.ireturn, 1) := by decide +kernel
theorem dX5_drain_0 : decode cX5_drain 0 = .ok (.aload_n 0, 1) := by decide +kernel
theorem dX5_drain_1 : decode cX5_drain 1 = .ok (.getfield 16, 3) := by decide +kernel
theorem dX5_drain_4 : decode cX5_drain 4 = .ok (.aload_n 0, 1) := by decide +kernel
theorem dX5_drain_5 : decode cX5_drain 5 = .ok (.getfield 12, 3) := by decide +kernel
theorem dX5_drain_8 : decode cX5_drain 8 = .ok (.invokevirtual 153, 3) := by decide +kernel
theorem dX5_drain_11 : decode cX5_drain 11 = .ok (.iconst 0, 1) := by decide +kernel
theorem dX5_drain_12 : decode cX5_drain 12 = .ok (.istore_n 1, 1) := by decide +kernel
theorem dX5_drain_13 : decode cX5_drain 13 = .ok (.iload_n 1, 1) := by decide +kernel
theorem dX5_drain_14 : decode cX5_drain 14 = .ok (.bipush 99, 2) := by decide +kernel
theorem dX5_drain_16 : decode cX5_drain 16 = .ok (.if_icmp .gt 31, 3) := by decide +kernel
theorem dX5_drain_19 : decode cX5_drain 19 = .ok (.aload_n 0, 1) := by decide +kernel
theorem dX5_drain_20 : decode cX5_drain 20 = .ok (.getfield 16, 3) := by decide +kernel
theorem dX5_drain_23 : decode cX5_drain 23 = .ok (.invokevirtual 156, 3) := by decide +kernel
theorem dX5_drain_26 : decode cX5_drain 26 = .ok (.ifCond .ne 5, 3) := by decide +kernel
theorem dX5_drain_29 : decode cX5_drain 29 = .ok (.iload_n 1, 1) := by decide +kernel
theorem dX5_drain_30 : decode cX5_drain 30 = .ok (.ireturn, 1) := by decide +kernel
theorem dX5_drain_31 : decode cX5_drain 31 = .ok (.aload_n 0, 1) := by decide +kernel
theorem dX5_drain_32 : decode cX5_drain 32 = .ok (.invokevirtual 160, 3) := by decide +kernel
theorem dX5_drain_35 : decode cX5_drain 35 = .ok (.ifCond .ne 6, 3) := by decide +kernel
theorem dX5_drain_38 : decode cX5_drain 38 = .ok (.bipush (-9), 2) := by decide +kernel
theorem dX5_drain_40 : decode cX5_drain 40 = .ok (.ireturn, 1) := by decide +kernel
theorem dX5_drain_41 : decode cX5_drain 41 = .ok (.iinc 1 1, 3) := by decide +kernel
theorem dX5_drain_44 : decode cX5_drain 44 = .ok (.goto (-31), 3) := by decide +kernel
theorem dX5_drain_47 : decode cX5_drain 47 = .ok (.bipush (-9), 2) := by decide +kernel
theorem dX5_drain_49 : decode cX5_drain 49 = .ok (.ireturn, 1) := by decide +kernel
theorem dX5_lost_0 : decode cX5_lost 0 = .ok (.iload_n 1, 1) := by decide +kernel
theorem dX5_lost_1 : decode cX5_lost 1 = .ok (.iconst 0, 1) := by decide +kernel
theorem dX5_lost_2 : decode cX5_lost 2 = .ok (.bipush 40, 2) := by decide +kernel
theorem dX5_lost_4 : decode cX5_lost 4 = .ok (.invokestatic 52, 3) := by decide +kernel
theorem dX5_lost_7 : decode cX5_lost 7 = .ok (.ifCond .eq 18, 3) := by decide +kernel
theorem dX5_lost_10 : decode cX5_lost 10 = .ok (.aload_n 0, 1) := by decide +kernel
theorem dX5_lost_11 : decode cX5_lost 11 = .ok (.iload_n 1, 1) := by decide +kernel
theorem dX5_lost_12 : decode cX5_lost 12 = .ok (.aload_n 0, 1) := by decide +kernel
theorem dX5_lost_13 : decode cX5_lost 13 = .ok (.getfield 12, 3) := by decide +kernel
theorem dX5_lost_16 : decode cX5_lost 16 = .ok (.getfield 56, 3) := by decide +kernel
theorem dX5_lost_19 : decode cX5_lost 19 = .ok (.invokevirtual 164, 3) := by decide +kernel
theorem dX5_lost_22 : decode cX5_lost 22 = .ok (.goto 4, 3) := by decide +kernel
theorem dX5_lost_25 : decode cX5_lost 25 = .ok (.iconst (-1), 1) := by decide +kernel
theorem dX5_lost_26 : decode cX5_lost 26 = .ok (.ireturn, 1) := by decide +kernel
theorem dX5_fewest_0 : decode cX5_fewest 0 = .ok (.iload_n 1, 1) := by decide +kernel
theorem dX5_fewest_1 : decode cX5_fewest 1 = .ok (.iconst 0, 1) := by decide +kernel
theorem dX5_fewest_2 : decode cX5_fewest 2 = .ok (.bipush 40, 2) := by decide +kernel
theorem dX5_fewest_4 : decode cX5_fewest 4 = .ok (.invokestatic 52, 3) := by decide +kernel
theorem dX5_fewest_7 : decode cX5_fewest 7 = .ok (.ifCond .ne 5, 3) := by decide +kernel
theorem dX5_fewest_10 : decode cX5_fewest 10 = .ok (.iconst (-1), 1) := by decide +kernel
